def mF_lose (S : MS) (p1 : Int32) : Int32 × MS := (if (mF_isBook p1) = 0 then ((-300000), S) else (if (mc S p1) < 0 then (0, (msc S p1 (-1))) else (1, (msc S p1 (-1)))))
theorem hdX1_lose : yX1_lose.cls = RX1 ∧ yX1_lose.cls ≠ "java/lang/invoke/MethodHandle" ∧ yX1_lose.cls ≠ "java/lang/invoke/VarHandle" ∧ (parseMethodDescriptor yX1_lose.desc).map (fun d => d.parameters.length) = some 1 := by decide +kernel
set_option maxHeartbeats 4000000 in
set_option maxRecDepth 100000 in
theorem c_X1_lose (l : Launch) (D : va_G) (a : MA) (hO : mOk a) (S : MS) (p1 : Int32) : Met l yX1_lose wsX1_lose ({ frames := 1, cells := 0, slots := 0, locals := 20 }) (va_Pc [.ref (ma a), .int p1] (mB D a S)) (mQi D a (mF_lose S p1)) 0 0 (mA a) := by
  refine Met.ofW (cc := cX1_lose) (maxL := 3) (ret := (some .int)) (by decide) rfl ?_
  intro p e s m args below meth c s₁ B hml hv
  obtain ⟨rfl, hP, hK⟩ := hv
  have hx := B.exec
  have hb := B.bytes
  have hr := B.returns
  have hts := atoms_spec (ws := wsX1_lose) B.pre
  have hown : s.vm.findClass RX1 = some m.cls := findClass_of_methodNamed B.named
  have hlocks := B.notSynchronized
  have hS : va_S (mA a) s.heap s.heap [] := va_S.rf
  have hP : va_P D vwCl (mW a S) s.heap := hP
  have hu : ∀ w ∈ wsX10, w ∈ wsX1_lose := fun _ h => List.mem_cons_of_mem _ (List.mem_append_right _ h)
  have hf7 := hts (.fieldLink RX1 7 "FlightBooksModel" "many" "[I") (by decide +kernel)
  have hk50 := hts (.constant RX1 50 (-300000)) (by decide +kernel)
  have hl := lv_entry ([.ref (ma a), .int p1]) (n := 3) (Nat.le_of_ble_eq_true rfl)
  rw [lg_entry_eq]
  generalize (lg_sl ([.ref (ma a), .int p1]) ++ List.replicate (3 - (lg_sl ([.ref (ma a), .int p1])).length) Slot.unset).toArray = ls at hl ⊢
  have hl : lv_has ls 3 [(0, .ref (ma a)), (1, .int p1)] := hl
  refine lv_iload_n hx hb dX1_lose_0 rfl (lv_at hl 1 rfl) ?_
  refine va_calli (va_runS (As := [.int p1]) (rest := []) ⟨hx, hb, hml, hown, hts⟩ (c_X1_isBook l p1) (va_cwS 1 hts gX1_lose_X1_isBook rfl rfl rfl hdX1_isBook ⟨Nat.le_of_ble_eq_true rfl, Nat.le_of_ble_eq_true rfl⟩) pPreS rfl rfl hl.1 rfl (lv_room (Nat.le_of_ble_eq_true rfl)) dX1_lose_1 ⟨Nat.zero_le _, Nat.zero_le _⟩) hS (fun q _ h => h.elim) (fun q h => h.elim) (fun r1 u1 t H1 locs ht hvm hw1 hB hz1 hk1 hS => ?_)
  have hP := P_kept hP hk1
  refine lv_if_ne (tgt := 10) hx hb dX1_lose_4 (by decide) (fun c2 => ?_) (fun c2 => ?_)
  · have hn3 := me_book hw1 c2
    refine lv_aload_n hx hb dX1_lose_10 rfl (lv_at hl 0 rfl) ?_
    refine m_get hx hb hts hu hown hK hP 1 (by decide) hf7 rfl (v := .ref (mac a)) rfl dX1_lose_11 ?_
    refine lv_iload_n hx hb dX1_lose_14 rfl (lv_at hl 1 rfl) ?_
    refine m_ldc hx hb hK hP hn3 dX1_lose_15 ?_
    refine lv_if_lt (tgt := 23) hx hb dX1_lose_16 (by decide) (fun c4 => ?_) (fun c4 => ?_)
    · refine lv_iconst (v := 0) hx hb dX1_lose_23 (by decide) ?_
      refine lv_istore_n (lv' := [(2, .int 0), (0, .ref (ma a)), (1, .int p1)]) hx hb dX1_lose_24 rfl hl (by decide) rfl (fun ls hl => ?_)
      refine lv_aload_n hx hb dX1_lose_25 rfl (lv_at hl 1 rfl) ?_
      refine m_get hx hb hts hu hown hK hP 1 (by decide) hf7 rfl (v := .ref (mac a)) rfl dX1_lose_26 ?_
      refine lv_iload_n hx hb dX1_lose_29 rfl (lv_at hl 2 rfl) ?_
      refine lv_iconst (v := (-1)) hx hb dX1_lose_30 (by decide) ?_
      refine m_stc hx hb hO hK hP hS hn3 dX1_lose_31 (fun H locs hP hS => ?_)
      refine lv_iload_n hx hb dX1_lose_32 rfl (lv_at hl 0 rfl) ?_
      refine lv_if_eq (tgt := 40) hx hb dX1_lose_33 (by decide) (fun c5 => ?_) (fun c5 => ?_)
      · refine lv_iconst (v := 0) hx hb dX1_lose_40 (by decide) ?_
        exact W.iret (v := 0) hx hb hr (fun t ht hW => ⟨⟨0, (msc S p1 (-1)), rfl, (by simp only [mF_lose, hw1, if_neg c2, if_pos c4]), by rw [ht]; exact hP, va_K.moved hW.alike hK⟩, hS.F ht⟩) hS.2.2 dX1_lose_41
      · exact absurd c5 (by decide)
    · refine lv_iconst (v := 1) hx hb dX1_lose_19 (by decide) ?_
      refine lv_goto (tgt := 24) hx hb dX1_lose_20 (by decide) ?_
      refine lv_istore_n (lv' := [(2, .int 1), (0, .ref (ma a)), (1, .int p1)]) hx hb dX1_lose_24 rfl hl (by decide) rfl (fun ls hl => ?_)
      refine lv_aload_n hx hb dX1_lose_25 rfl (lv_at hl 1 rfl) ?_
      refine m_get hx hb hts hu hown hK hP 1 (by decide) hf7 rfl (v := .ref (mac a)) rfl dX1_lose_26 ?_
      refine lv_iload_n hx hb dX1_lose_29 rfl (lv_at hl 2 rfl) ?_
      refine lv_iconst (v := (-1)) hx hb dX1_lose_30 (by decide) ?_
      refine m_stc hx hb hO hK hP hS hn3 dX1_lose_31 (fun H locs hP hS => ?_)
      refine lv_iload_n hx hb dX1_lose_32 rfl (lv_at hl 0 rfl) ?_
      refine lv_if_eq (tgt := 40) hx hb dX1_lose_33 (by decide) (fun c6 => ?_) (fun c6 => ?_)
      · exact absurd c6 (by decide)
      · refine lv_iconst (v := 1) hx hb dX1_lose_36 (by decide) ?_
        refine lv_goto (tgt := 41) hx hb dX1_lose_37 (by decide) ?_
        exact W.iret (v := 1) hx hb hr (fun t ht hW => ⟨⟨1, (msc S p1 (-1)), rfl, (by simp only [mF_lose, hw1, if_neg c2, if_neg c4]), by rw [ht]; exact hP, va_K.moved hW.alike hK⟩, hS.F ht⟩) hS.2.2 dX1_lose_41
  · refine lv_ldc (v := (-300000)) hx hb hown hk50 dX1_lose_7 ?_
    exact W.iret (v := (-300000)) hx hb hr (fun t ht hW => ⟨⟨(-300000), S, rfl, (by simp only [mF_lose, hw1, if_pos c2]), by rw [ht]; exact hP, va_K.moved hW.alike hK⟩, hS.F ht⟩) hS.2.2 dX1_lose_9
def mF_lines (S : MS) (p1 : Int32) : Int32 × MS := (if (mF_isBook p1) = 0 then ((-300000), S) else (if 0 ≤ (mc S p1) then (let q5 := mF_answer (msFa S 0) (mc (msFa S 0) p1); (q5.1, q5.2)) else (let q7 := mF_answer (msFa S ((-100000) - p1)) (mc (msFa S ((-100000) - p1)) p1); (q7.1, q7.2))))
theorem hdX1_lines : yX1_lines.cls = RX1 ∧ yX1_lines.cls ≠ "java/lang/invoke/MethodHandle" ∧ yX1_lines.cls ≠ "java/lang/invoke/VarHandle" ∧ (parseMethodDescriptor yX1_lines.desc).map (fun d => d.parameters.length) = some 1 := by decide +kernel
set_option maxHeartbeats 4000000 in
set_option maxRecDepth 100000 in
theorem c_X1_lines (l : Launch) (D : va_G) (a : MA) (hO : mOk a) (S : MS) (p1 : Int32) : Met l yX1_lines wsX1_lines ({ frames := 1, cells := 0, slots := 0, locals := 21 }) (va_Pc [.ref (ma a), .int p1] (mB D a S)) (mQi D a (mF_lines S p1)) 0 0 (mA a) := by
  refine Met.ofW (cc := cX1_lines) (maxL := 2) (ret := (some .int)) (by decide) rfl ?_
  intro p e s m args below meth c s₁ B hml hv
  obtain ⟨rfl, hP, hK⟩ := hv
  have hx := B.exec
  have hb := B.bytes
  have hr := B.returns
  have hts := atoms_spec (ws := wsX1_lines) B.pre
  have hown : s.vm.findClass RX1 = some m.cls := findClass_of_methodNamed B.named
  have hlocks := B.notSynchronized
  have hS : va_S (mA a) s.heap s.heap [] := va_S.rf
  have hP : va_P D vwCl (mW a S) s.heap := hP
  have hu : ∀ w ∈ wsX10, w ∈ wsX1_lines := fun _ h => List.mem_cons_of_mem _ (List.mem_append_right _ h)
  have hf7 := hts (.fieldLink RX1 7 "FlightBooksModel" "many" "[I") (by decide +kernel)
  have hf23 := hts (.fieldLink RX1 23 "FlightBooksModel" "fault" "I") (by decide +kernel)
  have hk26 := hts (.constant RX1 26 (-100000)) (by decide +kernel)
  have hk50 := hts (.constant RX1 50 (-300000)) (by decide +kernel)
  have hl := lv_entry ([.ref (ma a), .int p1]) (n := 2) (Nat.le_of_ble_eq_true rfl)
  rw [lg_entry_eq]
  generalize (lg_sl ([.ref (ma a), .int p1]) ++ List.replicate (2 - (lg_sl ([.ref (ma a), .int p1])).length) Slot.unset).toArray = ls at hl ⊢
  have hl : lv_has ls 2 [(0, .ref (ma a)), (1, .int p1)] := hl
  refine lv_iload_n hx hb dX1_lines_0 rfl (lv_at hl 1 rfl) ?_
  refine va_calli (va_runS (As := [.int p1]) (rest := []) ⟨hx, hb, hml, hown, hts⟩ (c_X1_isBook l p1) (va_cwS 1 hts gX1_lines_X1_isBook rfl rfl rfl hdX1_isBook ⟨Nat.le_of_ble_eq_true rfl, Nat.le_of_ble_eq_true rfl⟩) pPreS rfl rfl hl.1 rfl (lv_room (Nat.le_of_ble_eq_true rfl)) dX1_lines_1 ⟨Nat.zero_le _, Nat.zero_le _⟩) hS (fun q _ h => h.elim) (fun q h => h.elim) (fun r1 u1 t H1 locs ht hvm hw1 hB hz1 hk1 hS => ?_)
  have hP := P_kept hP hk1
  refine lv_if_ne (tgt := 10) hx hb dX1_lines_4 (by decide) (fun c2 => ?_) (fun c2 => ?_)
  · have hn3 := me_book hw1 c2
    refine lv_aload_n hx hb dX1_lines_10 rfl (lv_at hl 0 rfl) ?_
    refine lv_aload_n hx hb dX1_lines_11 rfl (lv_at hl 0 rfl) ?_
    refine m_get hx hb hts hu hown hK hP 1 (by decide) hf7 rfl (v := .ref (mac a)) rfl dX1_lines_12 ?_
    refine lv_iload_n hx hb dX1_lines_15 rfl (lv_at hl 1 rfl) ?_
    refine m_ldc hx hb hK hP hn3 dX1_lines_16 ?_
    refine lv_if_ge (tgt := 27) hx hb dX1_lines_17 (by decide) (fun c4 => ?_) (fun c4 => ?_)
    · refine lv_iconst (v := 0) hx hb dX1_lines_27 (by decide) ?_
      refine m_puti hx hb hts hu hown hO hK hP hS 11 (by decide) hf23 rfl rfl (by decide +kernel) (msFa S) (fun _ => rfl) (fun _ => rfl) dX1_lines_28 (fun H locs hP hS => ?_)
      refine lv_aload_n hx hb dX1_lines_31 rfl (lv_at hl 0 rfl) ?_
      refine lv_aload_n hx hb dX1_lines_32 rfl (lv_at hl 0 rfl) ?_
      refine m_get hx hb hts hu hown hK hP 1 (by decide) hf7 rfl (v := .ref (mac a)) rfl dX1_lines_33 ?_
      refine lv_iload_n hx hb dX1_lines_36 rfl (lv_at hl 1 rfl) ?_
      refine m_ldc hx hb hK hP hn3 dX1_lines_37 ?_
      refine va_calli (va_runV (As := [.int (mc (msFa S 0) p1)]) (rest := []) ⟨hx, hb, hml, hown, hts⟩ (c_X1_answer l D a hO (msFa S 0) (mc (msFa S 0) p1)) (cwV 1 hts gX1_lines_X1_answer rfl rfl rfl hdX1_answer ⟨Nat.le_of_ble_eq_true rfl, Nat.le_of_ble_eq_true rfl⟩) (mPreV hK hP) rfl rfl hl.1 rfl (lv_room (Nat.le_of_ble_eq_true rfl)) dX1_lines_38 ⟨Nat.zero_le _, Nat.zero_le _⟩) hS (fun q _ h => h) (fun q h => h) (fun r5 S5 t H1 locs ht hvm hw5 hB hz1 hk1 hS => ?_)
      obtain ⟨hP, -⟩ := hB
      rw [ht] at hP
      exact W.iret (v := r5) hx hb hr (fun t ht hW => ⟨⟨r5, S5, rfl, (by simp only [mF_lines, hw1, if_neg c2, if_pos c4, hw5]), by rw [ht]; exact hP, va_K.moved hW.alike hK⟩, hS.F ht⟩) hS.2.2 dX1_lines_41
    · refine lv_ldc (v := (-100000)) hx hb hown hk26 dX1_lines_20 ?_
      refine lv_iload_n hx hb dX1_lines_22 rfl (lv_at hl 1 rfl) ?_
      refine lv_isub hx hb dX1_lines_23 ?_
      refine lv_goto (tgt := 28) hx hb dX1_lines_24 (by decide) ?_
      refine m_puti hx hb hts hu hown hO hK hP hS 11 (by decide) hf23 rfl rfl (by decide +kernel) (msFa S) (fun _ => rfl) (fun _ => rfl) dX1_lines_28 (fun H locs hP hS => ?_)
      refine lv_aload_n hx hb dX1_lines_31 rfl (lv_at hl 0 rfl) ?_
      refine lv_aload_n hx hb dX1_lines_32 rfl (lv_at hl 0 rfl) ?_
      refine m_get hx hb hts hu hown hK hP 1 (by decide) hf7 rfl (v := .ref (mac a)) rfl dX1_lines_33 ?_
      refine lv_iload_n hx hb dX1_lines_36 rfl (lv_at hl 1 rfl) ?_
      refine m_ldc hx hb hK hP hn3 dX1_lines_37 ?_
      refine va_calli (va_runV (As := [.int (mc (msFa S ((-100000) - p1)) p1)]) (rest := []) ⟨hx, hb, hml, hown, hts⟩ (c_X1_answer l D a hO (msFa S ((-100000) - p1)) (mc (msFa S ((-100000) - p1)) p1)) (cwV 1 hts gX1_lines_X1_answer rfl rfl rfl hdX1_answer ⟨Nat.le_of_ble_eq_true rfl, Nat.le_of_ble_eq_true rfl⟩) (mPreV hK hP) rfl rfl hl.1 rfl (lv_room (Nat.le_of_ble_eq_true rfl)) dX1_lines_38 ⟨Nat.zero_le _, Nat.zero_le _⟩) hS (fun q _ h => h) (fun q h => h) (fun r7 S7 t H1 locs ht hvm hw7 hB hz1 hk1 hS => ?_)
      obtain ⟨hP, -⟩ := hB
      rw [ht] at hP
      exact W.iret (v := r7) hx hb hr (fun t ht hW => ⟨⟨r7, S7, rfl, (by simp only [mF_lines, hw1, if_neg c2, if_neg c4, hw7]), by rw [ht]; exact hP, va_K.moved hW.alike hK⟩, hS.F ht⟩) hS.2.2 dX1_lines_41
  · refine lv_ldc (v := (-300000)) hx hb hown hk50 dX1_lines_7 ?_
    exact W.iret (v := (-300000)) hx hb hr (fun t ht hW => ⟨⟨(-300000), S, rfl, (by simp only [mF_lines, hw1, if_pos c2]), by rw [ht]; exact hP, va_K.moved hW.alike hK⟩, hS.F ht⟩) hS.2.2 dX1_lines_9
def mF_read (S : MS) (p1 p2 : Int32) : Int32 × MS := (if (mF_isBook p1) = 0 then ((-300000), S) else (let q4 := mF_cell (msFa S 0) p1 p2; (let q6 := mF_answer q4.2 q4.1; (q6.1, q6.2))))
theorem hdX1_read : yX1_read.cls = RX1 ∧ yX1_read.cls ≠ "java/lang/invoke/MethodHandle" ∧ yX1_read.cls ≠ "java/lang/invoke/VarHandle" ∧ (parseMethodDescriptor yX1_read.desc).map (fun d => d.parameters.length) = some 2 := by decide +kernel
set_option maxHeartbeats 4000000 in
set_option maxRecDepth 100000 in
theorem c_X1_read (l : Launch) (D : va_G) (a : MA) (hO : mOk a) (S : MS) (p1 p2 : Int32) (hI : mI S) : Met l yX1_read wsX1_read ({ frames := 2, cells := 0, slots := 0, locals := 44 }) (va_Pc [.ref (ma a), .int p1, .int p2] (mB D a S)) (mQi D a (mF_read S p1 p2)) 0 0 (mA a) := by
  refine Met.ofW (cc := cX1_read) (maxL := 4) (ret := (some .int)) (by decide) rfl ?_
  intro p e s m args below meth c s₁ B hml hv
  obtain ⟨rfl, hP, hK⟩ := hv
  have hx := B.exec
  have hb := B.bytes
  have hr := B.returns
  have hts := atoms_spec (ws := wsX1_read) B.pre
  have hown : s.vm.findClass RX1 = some m.cls := findClass_of_methodNamed B.named
  have hlocks := B.notSynchronized
  have hS : va_S (mA a) s.heap s.heap [] := va_S.rf
  have hP : va_P D vwCl (mW a S) s.heap := hP
  have hu : ∀ w ∈ wsX10, w ∈ wsX1_read := fun _ h => List.mem_cons_of_mem _ (List.mem_append_right _ h)
  have hf23 := hts (.fieldLink RX1 23 "FlightBooksModel" "fault" "I") (by decide +kernel)
  have hk50 := hts (.constant RX1 50 (-300000)) (by decide +kernel)
  have hl := lv_entry ([.ref (ma a), .int p1, .int p2]) (n := 4) (Nat.le_of_ble_eq_true rfl)
  rw [lg_entry_eq]
  generalize (lg_sl ([.ref (ma a), .int p1, .int p2]) ++ List.replicate (4 - (lg_sl ([.ref (ma a), .int p1, .int p2])).length) Slot.unset).toArray = ls at hl ⊢
  have hl : lv_has ls 4 [(0, .ref (ma a)), (1, .int p1), (2, .int p2)] := hl
  refine lv_iload_n hx hb dX1_read_0 rfl (lv_at hl 1 rfl) ?_
  refine va_calli (va_runS (As := [.int p1]) (rest := []) ⟨hx, hb, hml, hown, hts⟩ (c_X1_isBook l p1) (va_cwS 1 hts gX1_read_X1_isBook rfl rfl rfl hdX1_isBook ⟨Nat.le_of_ble_eq_true rfl, Nat.le_of_ble_eq_true rfl⟩) pPreS rfl rfl hl.1 rfl (lv_room (Nat.le_of_ble_eq_true rfl)) dX1_read_1 ⟨Nat.zero_le _, Nat.zero_le _⟩) hS (fun q _ h => h.elim) (fun q h => h.elim) (fun r1 u1 t H1 locs ht hvm hw1 hB hz1 hk1 hS => ?_)
  have hP := P_kept hP hk1
  refine lv_if_ne (tgt := 10) hx hb dX1_read_4 (by decide) (fun c2 => ?_) (fun c2 => ?_)
  · have hn3 := me_book hw1 c2
    refine lv_aload_n hx hb dX1_read_10 rfl (lv_at hl 0 rfl) ?_
    refine lv_iconst (v := 0) hx hb dX1_read_11 (by decide) ?_
    refine m_puti hx hb hts hu hown hO hK hP hS 11 (by decide) hf23 rfl rfl (by decide +kernel) (msFa S) (fun _ => rfl) (fun _ => rfl) dX1_read_12 (fun H locs hP hS => ?_)
    have hI := mI_fault 0 hI
    refine lv_aload_n hx hb dX1_read_15 rfl (lv_at hl 0 rfl) ?_
    refine lv_iload_n hx hb dX1_read_16 rfl (lv_at hl 1 rfl) ?_
    refine lv_iload_n hx hb dX1_read_17 rfl (lv_at hl 2 rfl) ?_
    refine va_calli (va_runV (As := [.int p1, .int p2]) (rest := []) ⟨hx, hb, hml, hown, hts⟩ (c_X1_cell l D a hO (msFa S 0) p1 p2 hI hn3) (cwV 2 hts gX1_read_X1_cell rfl rfl rfl hdX1_cell ⟨Nat.le_of_ble_eq_true rfl, Nat.le_of_ble_eq_true rfl⟩) (mPreV hK hP) rfl rfl hl.1 rfl (lv_room (Nat.le_of_ble_eq_true rfl)) dX1_read_18 ⟨Nat.zero_le _, Nat.zero_le _⟩) hS (fun q _ h => h) (fun q h => h) (fun r4 S4 t H1 locs ht hvm hw4 hB hz1 hk1 hS => ?_)
    obtain ⟨hP, -⟩ := hB
    rw [ht] at hP
    have hI := mI_cell hI hw4
    refine lv_istore_n (lv' := [(3, .int r4), (0, .ref (ma a)), (1, .int p1), (2, .int p2)]) hx hb dX1_read_21 rfl hl (by decide) rfl (fun ls hl => ?_)
    refine lv_aload_n hx hb dX1_read_22 rfl (lv_at hl 1 rfl) ?_
    refine lv_iload_n hx hb dX1_read_23 rfl (lv_at hl 0 rfl) ?_
    refine va_calli (va_runV (As := [.int r4]) (rest := []) ⟨hx, hb, hml, hown, hts⟩ (c_X1_answer l D a hO S4 r4) (cwV 1 hts gX1_read_X1_answer rfl rfl rfl hdX1_answer ⟨Nat.le_of_ble_eq_true rfl, Nat.le_of_ble_eq_true rfl⟩) (mPreV hK hP) rfl rfl hl.1 rfl (lv_room (Nat.le_of_ble_eq_true rfl)) dX1_read_24 ⟨Nat.zero_le _, Nat.zero_le _⟩) hS (fun q _ h => h) (fun q h => h) (fun r6 S6 t H1 locs ht hvm hw6 hB hz1 hk1 hS => ?_)
    obtain ⟨hP, -⟩ := hB
    rw [ht] at hP
    exact W.iret (v := r6) hx hb hr (fun t ht hW => ⟨⟨r6, S6, rfl, (by simp only [mF_read, hw1, if_neg c2, hw4, hw6]), by rw [ht]; exact hP, va_K.moved hW.alike hK⟩, hS.F ht⟩) hS.2.2 dX1_read_27
  · refine lv_ldc (v := (-300000)) hx hb hown hk50 dX1_read_7 ?_
    exact W.iret (v := (-300000)) hx hb hr (fun t ht hW => ⟨⟨(-300000), S, rfl, (by simp only [mF_read, hw1, if_pos c2]), by rw [ht]; exact hP, va_K.moved hW.alike hK⟩, hS.F ht⟩) hS.2.2 dX1_read_9
def mF_write (S : MS) (p1 p2 p3 : Int32) : Int32 × MS := (if (mF_isBook p1) = 0 then ((-300000), S) else (if p1 = 2 then (if (mF_isLoad p3) = 0 then ((-300000), S) else (let q13 := mF_put (msFa S 0) p1 p2 p3; (let q15 := mF_answer q13 0; (q15.1, q15.2)))) else (let q6 := mF_put (msFa S 0) p1 p2 p3; (let q8 := mF_answer q6 0; (q8.1, q8.2)))))
theorem hdX1_write : yX1_write.cls = RX1 ∧ yX1_write.cls ≠ "java/lang/invoke/MethodHandle" ∧ yX1_write.cls ≠ "java/lang/invoke/VarHandle" ∧ (parseMethodDescriptor yX1_write.desc).map (fun d => d.parameters.length) = some 3 := by decide +kernel
set_option maxHeartbeats 4000000 in
set_option maxRecDepth 100000 in
theorem c_X1_write (l : Launch) (D : va_G) (a : MA) (hO : mOk a) (S : MS) (p1 p2 p3 : Int32) (hI : mI S) : Met l yX1_write wsX1_write ({ frames := 2, cells := 0, slots := 0, locals := 45 }) (va_Pc [.ref (ma a), .int p1, .int p2, .int p3] (mB D a S)) (mQi D a (mF_write S p1 p2 p3)) 0 0 (mA a) := by
  refine Met.ofW (cc := cX1_write) (maxL := 4) (ret := (some .int)) (by decide) rfl ?_
  intro p e s m args below meth c s₁ B hml hv
  obtain ⟨rfl, hP, hK⟩ := hv
  have hx := B.exec
  have hb := B.bytes
  have hr := B.returns
  have hts := atoms_spec (ws := wsX1_write) B.pre
  have hown : s.vm.findClass RX1 = some m.cls := findClass_of_methodNamed B.named
  have hlocks := B.notSynchronized
  have hS : va_S (mA a) s.heap s.heap [] := va_S.rf
  have hP : va_P D vwCl (mW a S) s.heap := hP
  have hu : ∀ w ∈ wsX10, w ∈ wsX1_write := fun _ h => List.mem_cons_of_mem _ (List.mem_append_right _ h)
  have hk50 := hts (.constant RX1 50 (-300000)) (by decide +kernel)
  have hf23 := hts (.fieldLink RX1 23 "FlightBooksModel" "fault" "I") (by decide +kernel)
  have hl := lv_entry ([.ref (ma a), .int p1, .int p2, .int p3]) (n := 4) (Nat.le_of_ble_eq_true rfl)
  rw [lg_entry_eq]
  generalize (lg_sl ([.ref (ma a), .int p1, .int p2, .int p3]) ++ List.replicate (4 - (lg_sl ([.ref (ma a), .int p1, .int p2, .int p3])).length) Slot.unset).toArray = ls at hl ⊢
  have hl : lv_has ls 4 [(0, .ref (ma a)), (1, .int p1), (2, .int p2), (3, .int p3)] := hl
  refine lv_iload_n hx hb dX1_write_0 rfl (lv_at hl 1 rfl) ?_
  refine va_calli (va_runS (As := [.int p1]) (rest := []) ⟨hx, hb, hml, hown, hts⟩ (c_X1_isBook l p1) (va_cwS 1 hts gX1_write_X1_isBook rfl rfl rfl hdX1_isBook ⟨Nat.le_of_ble_eq_true rfl, Nat.le_of_ble_eq_true rfl⟩) pPreS rfl rfl hl.1 rfl (lv_room (Nat.le_of_ble_eq_true rfl)) dX1_write_1 ⟨Nat.zero_le _, Nat.zero_le _⟩) hS (fun q _ h => h.elim) (fun q h => h.elim) (fun r1 u1 t H1 locs ht hvm hw1 hB hz1 hk1 hS => ?_)
  have hP := P_kept hP hk1
  refine lv_if_eq (tgt := 19) hx hb dX1_write_4 (by decide) (fun c2 => ?_) (fun c2 => ?_)
  · refine lv_ldc (v := (-300000)) hx hb hown hk50 dX1_write_19 ?_
    exact W.iret (v := (-300000)) hx hb hr (fun t ht hW => ⟨⟨(-300000), S, rfl, (by simp only [mF_write, hw1, if_pos c2]), by rw [ht]; exact hP, va_K.moved hW.alike hK⟩, hS.F ht⟩) hS.2.2 dX1_write_21
  · have hn4 := me_book hw1 c2
    refine lv_iload_n hx hb dX1_write_7 rfl (lv_at hl 1 rfl) ?_
    refine lv_iconst (v := 2) hx hb dX1_write_8 (by decide) ?_
    refine lv_icmp_ne (tgt := 22) hx hb dX1_write_9 (by decide) (fun c5 => ?_) (fun c5 => ?_)
    · refine lv_aload_n hx hb dX1_write_22 rfl (lv_at hl 0 rfl) ?_
      refine lv_iconst (v := 0) hx hb dX1_write_23 (by decide) ?_
      refine m_puti hx hb hts hu hown hO hK hP hS 11 (by decide) hf23 rfl rfl (by decide +kernel) (msFa S) (fun _ => rfl) (fun _ => rfl) dX1_write_24 (fun H locs hP hS => ?_)
      have hI := mI_fault 0 hI
      refine lv_aload_n hx hb dX1_write_27 rfl (lv_at hl 0 rfl) ?_
      refine lv_iload_n hx hb dX1_write_28 rfl (lv_at hl 1 rfl) ?_
      refine lv_iload_n hx hb dX1_write_29 rfl (lv_at hl 2 rfl) ?_
      refine lv_iload_n hx hb dX1_write_30 rfl (lv_at hl 3 rfl) ?_
      refine va_callv (va_runV (As := [.int p1, .int p2, .int p3]) (rest := []) ⟨hx, hb, hml, hown, hts⟩ (c_X1_put l D a hO (msFa S 0) p1 p2 p3 hI hn4) (cwV 3 hts gX1_write_X1_put rfl rfl rfl hdX1_put ⟨Nat.le_of_ble_eq_true rfl, Nat.le_of_ble_eq_true rfl⟩) (mPreV hK hP) rfl rfl hl.1 rfl (lv_room (Nat.le_of_ble_eq_true rfl)) dX1_write_31 ⟨Nat.zero_le _, Nat.zero_le _⟩) hS (fun q _ h => h) (fun q h => h) (fun S6 t H1 locs ht hvm hw6 hB hz1 hk1 hS => ?_)
      obtain ⟨hP, -⟩ := hB
      rw [ht] at hP
      have hI := mI_put hI hw6
      refine lv_aload_n hx hb dX1_write_34 rfl (lv_at hl 0 rfl) ?_
      refine lv_iconst (v := 0) hx hb dX1_write_35 (by decide) ?_
      refine va_calli (va_runV (As := [.int 0]) (rest := []) ⟨hx, hb, hml, hown, hts⟩ (c_X1_answer l D a hO S6 0) (cwV 1 hts gX1_write_X1_answer rfl rfl rfl hdX1_answer ⟨Nat.le_of_ble_eq_true rfl, Nat.le_of_ble_eq_true rfl⟩) (mPreV hK hP) rfl rfl hl.1 rfl (lv_room (Nat.le_of_ble_eq_true rfl)) dX1_write_36 ⟨Nat.zero_le _, Nat.zero_le _⟩) hS (fun q _ h => h) (fun q h => h) (fun r8 S8 t H1 locs ht hvm hw8 hB hz1 hk1 hS => ?_)
      obtain ⟨hP, -⟩ := hB
      rw [ht] at hP
      exact W.iret (v := r8) hx hb hr (fun t ht hW => ⟨⟨r8, S8, rfl, (by simp only [mF_write, hw1, if_neg c2, if_neg c5, hw6, hw8]), by rw [ht]; exact hP, va_K.moved hW.alike hK⟩, hS.F ht⟩) hS.2.2 dX1_write_39
    · refine lv_iload_n hx hb dX1_write_12 rfl (lv_at hl 3 rfl) ?_
      refine va_calli (va_runS (As := [.int p3]) (rest := []) ⟨hx, hb, hml, hown, hts⟩ (c_X1_isLoad l p3) (va_cwS 1 hts gX1_write_X1_isLoad rfl rfl rfl hdX1_isLoad ⟨Nat.le_of_ble_eq_true rfl, Nat.le_of_ble_eq_true rfl⟩) pPreS rfl rfl hl.1 rfl (lv_room (Nat.le_of_ble_eq_true rfl)) dX1_write_13 ⟨Nat.zero_le _, Nat.zero_le _⟩) hS (fun q _ h => h.elim) (fun q h => h.elim) (fun r10 u10 t H1 locs ht hvm hw10 hB hz1 hk1 hS => ?_)
      have hP := P_kept hP hk1
      refine lv_if_ne (tgt := 22) hx hb dX1_write_16 (by decide) (fun c11 => ?_) (fun c11 => ?_)
      · refine lv_aload_n hx hb dX1_write_22 rfl (lv_at hl 0 rfl) ?_
        refine lv_iconst (v := 0) hx hb dX1_write_23 (by decide) ?_
        refine m_puti hx hb hts hu hown hO hK hP hS 11 (by decide) hf23 rfl rfl (by decide +kernel) (msFa S) (fun _ => rfl) (fun _ => rfl) dX1_write_24 (fun H locs hP hS => ?_)
        have hI := mI_fault 0 hI
        refine lv_aload_n hx hb dX1_write_27 rfl (lv_at hl 0 rfl) ?_
        refine lv_iload_n hx hb dX1_write_28 rfl (lv_at hl 1 rfl) ?_
        refine lv_iload_n hx hb dX1_write_29 rfl (lv_at hl 2 rfl) ?_
        refine lv_iload_n hx hb dX1_write_30 rfl (lv_at hl 3 rfl) ?_
        refine va_callv (va_runV (As := [.int p1, .int p2, .int p3]) (rest := []) ⟨hx, hb, hml, hown, hts⟩ (c_X1_put l D a hO (msFa S 0) p1 p2 p3 hI hn4) (cwV 3 hts gX1_write_X1_put rfl rfl rfl hdX1_put ⟨Nat.le_of_ble_eq_true rfl, Nat.le_of_ble_eq_true rfl⟩) (mPreV hK hP) rfl rfl hl.1 rfl (lv_room (Nat.le_of_ble_eq_true rfl)) dX1_write_31 ⟨Nat.zero_le _, Nat.zero_le _⟩) hS (fun q _ h => h) (fun q h => h) (fun S13 t H1 locs ht hvm hw13 hB hz1 hk1 hS => ?_)
        obtain ⟨hP, -⟩ := hB
        rw [ht] at hP
        have hI := mI_put hI hw13
        refine lv_aload_n hx hb dX1_write_34 rfl (lv_at hl 0 rfl) ?_
        refine lv_iconst (v := 0) hx hb dX1_write_35 (by decide) ?_
        refine va_calli (va_runV (As := [.int 0]) (rest := []) ⟨hx, hb, hml, hown, hts⟩ (c_X1_answer l D a hO S13 0) (cwV 1 hts gX1_write_X1_answer rfl rfl rfl hdX1_answer ⟨Nat.le_of_ble_eq_true rfl, Nat.le_of_ble_eq_true rfl⟩) (mPreV hK hP) rfl rfl hl.1 rfl (lv_room (Nat.le_of_ble_eq_true rfl)) dX1_write_36 ⟨Nat.zero_le _, Nat.zero_le _⟩) hS (fun q _ h => h) (fun q h => h) (fun r15 S15 t H1 locs ht hvm hw15 hB hz1 hk1 hS => ?_)
        obtain ⟨hP, -⟩ := hB
        rw [ht] at hP
        exact W.iret (v := r15) hx hb hr (fun t ht hW => ⟨⟨r15, S15, rfl, (by simp only [mF_write, hw1, if_neg c2, if_pos c5, hw10, if_neg c11, hw13, hw15]), by rw [ht]; exact hP, va_K.moved hW.alike hK⟩, hS.F ht⟩) hS.2.2 dX1_write_39
      · refine lv_ldc (v := (-300000)) hx hb hown hk50 dX1_write_19 ?_
        exact W.iret (v := (-300000)) hx hb hr (fun t ht hW => ⟨⟨(-300000), S, rfl, (by simp only [mF_write, hw1, if_neg c2, if_pos c5, hw10, if_pos c11]), by rw [ht]; exact hP, va_K.moved hW.alike hK⟩, hS.F ht⟩) hS.2.2 dX1_write_21
def mF_change (S : MS) (p1 p2 p3 p4 : Int32) : Int32 × MS := (if (mF_isBook p1) = 0 then ((-300000), S) else (if p3 < 0 then ((-300000), S) else (if 4 ≤ p3 then ((-300000), S) else (if p1 = 2 then (if 2 ≤ p3 then (let q75 := mF_cell (msFa S 0) p1 p2; (if p3 = 0 then (if p1 = 3 then (let q131 := mF_put q75.2 p1 p2 (mF_gate q75.1 p3 p4); (let q133 := mF_cell q131 p1 p2; (let q135 := mF_answer q133.2 q133.1; (q135.1, q135.2)))) else (let q124 := mF_put q75.2 p1 p2 (q75.1 + p4); (let q126 := mF_cell q124 p1 p2; (let q128 := mF_answer q126.2 q126.1; (q128.1, q128.2))))) else (if p3 = 1 then (if p1 = 3 then (let q117 := mF_put q75.2 p1 p2 (mF_gate q75.1 p3 p4); (let q119 := mF_cell q117 p1 p2; (let q121 := mF_answer q119.2 q119.1; (q121.1, q121.2)))) else (let q110 := mF_put q75.2 p1 p2 (q75.1 + (-p4)); (let q112 := mF_cell q110 p1 p2; (let q114 := mF_answer q112.2 q112.1; (q114.1, q114.2))))) else (if p3 = 2 then (if p1 = 3 then (let q103 := mF_put q75.2 p1 p2 (mF_gate q75.1 p3 p4); (let q105 := mF_cell q103 p1 p2; (let q107 := mF_answer q105.2 q105.1; (q107.1, q107.2)))) else (let q96 := mF_put q75.2 p1 p2 (q75.1 + 8); (let q98 := mF_cell q96 p1 p2; (let q100 := mF_answer q98.2 q98.1; (q100.1, q100.2))))) else (if p1 = 3 then (let q89 := mF_put q75.2 p1 p2 (mF_gate q75.1 p3 p4); (let q91 := mF_cell q89 p1 p2; (let q93 := mF_answer q91.2 q91.1; (q93.1, q93.2)))) else (let q82 := mF_put q75.2 p1 p2 (q75.1 + (-8)); (let q84 := mF_cell q82 p1 p2; (let q86 := mF_answer q84.2 q84.1; (q86.1, q86.2))))))))) else (if (mF_isLoad p4) = 0 then ((-300000), S) else (let q140 := mF_cell (msFa S 0) p1 p2; (if p3 = 0 then (if p1 = 3 then (let q196 := mF_put q140.2 p1 p2 (mF_gate q140.1 p3 p4); (let q198 := mF_cell q196 p1 p2; (let q200 := mF_answer q198.2 q198.1; (q200.1, q200.2)))) else (let q189 := mF_put q140.2 p1 p2 (q140.1 + p4); (let q191 := mF_cell q189 p1 p2; (let q193 := mF_answer q191.2 q191.1; (q193.1, q193.2))))) else (if p3 = 1 then (if p1 = 3 then (let q182 := mF_put q140.2 p1 p2 (mF_gate q140.1 p3 p4); (let q184 := mF_cell q182 p1 p2; (let q186 := mF_answer q184.2 q184.1; (q186.1, q186.2)))) else (let q175 := mF_put q140.2 p1 p2 (q140.1 + (-p4)); (let q177 := mF_cell q175 p1 p2; (let q179 := mF_answer q177.2 q177.1; (q179.1, q179.2))))) else (if p3 = 2 then (if p1 = 3 then (let q168 := mF_put q140.2 p1 p2 (mF_gate q140.1 p3 p4); (let q170 := mF_cell q168 p1 p2; (let q172 := mF_answer q170.2 q170.1; (q172.1, q172.2)))) else (let q161 := mF_put q140.2 p1 p2 (q140.1 + 8); (let q163 := mF_cell q161 p1 p2; (let q165 := mF_answer q163.2 q163.1; (q165.1, q165.2))))) else (if p1 = 3 then (let q154 := mF_put q140.2 p1 p2 (mF_gate q140.1 p3 p4); (let q156 := mF_cell q154 p1 p2; (let q158 := mF_answer q156.2 q156.1; (q158.1, q158.2)))) else (let q147 := mF_put q140.2 p1 p2 (q140.1 + (-8)); (let q149 := mF_cell q147 p1 p2; (let q151 := mF_answer q149.2 q149.1; (q151.1, q151.2))))))))))) else (let q12 := mF_cell (msFa S 0) p1 p2; (if p3 = 0 then (if p1 = 3 then (let q68 := mF_put q12.2 p1 p2 (mF_gate q12.1 p3 p4); (let q70 := mF_cell q68 p1 p2; (let q72 := mF_answer q70.2 q70.1; (q72.1, q72.2)))) else (let q61 := mF_put q12.2 p1 p2 (q12.1 + p4); (let q63 := mF_cell q61 p1 p2; (let q65 := mF_answer q63.2 q63.1; (q65.1, q65.2))))) else (if p3 = 1 then (if p1 = 3 then (let q54 := mF_put q12.2 p1 p2 (mF_gate q12.1 p3 p4); (let q56 := mF_cell q54 p1 p2; (let q58 := mF_answer q56.2 q56.1; (q58.1, q58.2)))) else (let q47 := mF_put q12.2 p1 p2 (q12.1 + (-p4)); (let q49 := mF_cell q47 p1 p2; (let q51 := mF_answer q49.2 q49.1; (q51.1, q51.2))))) else (if p3 = 2 then (if p1 = 3 then (let q40 := mF_put q12.2 p1 p2 (mF_gate q12.1 p3 p4); (let q42 := mF_cell q40 p1 p2; (let q44 := mF_answer q42.2 q42.1; (q44.1, q44.2)))) else (let q33 := mF_put q12.2 p1 p2 (q12.1 + 1); (let q35 := mF_cell q33 p1 p2; (let q37 := mF_answer q35.2 q35.1; (q37.1, q37.2))))) else (if p1 = 3 then (let q26 := mF_put q12.2 p1 p2 (mF_gate q12.1 p3 p4); (let q28 := mF_cell q26 p1 p2; (let q30 := mF_answer q28.2 q28.1; (q30.1, q30.2)))) else (let q19 := mF_put q12.2 p1 p2 (q12.1 + (-1)); (let q21 := mF_cell q19 p1 p2; (let q23 := mF_answer q21.2 q21.1; (q23.1, q23.2)))))))))))))
theorem hdX1_change : yX1_change.cls = RX1 ∧ yX1_change.cls ≠ "java/lang/invoke/MethodHandle" ∧ yX1_change.cls ≠ "java/lang/invoke/VarHandle" ∧ (parseMethodDescriptor yX1_change.desc).map (fun d => d.parameters.length) = some 4 := by decide +kernel
set_option maxHeartbeats 4000000 in
set_option maxRecDepth 100000 in
theorem c_X1_change (l : Launch) (D : va_G) (a : MA) (hO : mOk a) (S : MS) (p1 p2 p3 p4 : Int32) (hI : mI S) : Met l yX1_change wsX1_change ({ frames := 2, cells := 0, slots := 0, locals := 45 }) (va_Pc [.ref (ma a), .int p1, .int p2, .int p3, .int p4] (mB D a S)) (mQi D a (mF_change S p1 p2 p3 p4)) 0 0 (mA a) := by
  refine Met.ofW (cc := cX1_change) (maxL := 10) (ret := (some .int)) (by decide) rfl ?_
  intro p e s m args below meth c s₁ B hml hv
  obtain ⟨rfl, hP, hK⟩ := hv
  have hx := B.exec
  have hb := B.bytes
  have hr := B.returns
  have hts := atoms_spec (ws := wsX1_change) B.pre
  have hown : s.vm.findClass RX1 = some m.cls := findClass_of_methodNamed B.named
  have hlocks := B.notSynchronized
  have hS : va_S (mA a) s.heap s.heap [] := va_S.rf
  have hP : va_P D vwCl (mW a S) s.heap := hP
  have hu : ∀ w ∈ wsX10, w ∈ wsX1_change := fun _ h => List.mem_cons_of_mem _ (List.mem_append_right _ h)
  have hk50 := hts (.constant RX1 50 (-300000)) (by decide +kernel)
  have hf23 := hts (.fieldLink RX1 23 "FlightBooksModel" "fault" "I") (by decide +kernel)
  have hl := lv_entry ([.ref (ma a), .int p1, .int p2, .int p3, .int p4]) (n := 10) (Nat.le_of_ble_eq_true rfl)
  rw [lg_entry_eq]
  generalize (lg_sl ([.ref (ma a), .int p1, .int p2, .int p3, .int p4]) ++ List.replicate (10 - (lg_sl ([.ref (ma a), .int p1, .int p2, .int p3, .int p4])).length) Slot.unset).toArray = ls at hl ⊢
  have hl : lv_has ls 10 [(0, .ref (ma a)), (1, .int p1), (2, .int p2), (3, .int p3), (4, .int p4)] := hl
  refine lv_iload_n hx hb dX1_change_0 rfl (lv_at hl 1 rfl) ?_
  refine va_calli (va_runS (As := [.int p1]) (rest := []) ⟨hx, hb, hml, hown, hts⟩ (c_X1_isBook l p1) (va_cwS 1 hts gX1_change_X1_isBook rfl rfl rfl hdX1_isBook ⟨Nat.le_of_ble_eq_true rfl, Nat.le_of_ble_eq_true rfl⟩) pPreS rfl rfl hl.1 rfl (lv_room (Nat.le_of_ble_eq_true rfl)) dX1_change_1 ⟨Nat.zero_le _, Nat.zero_le _⟩) hS (fun q _ h => h.elim) (fun q h => h.elim) (fun r1 u1 t H1 locs ht hvm hw1 hB hz1 hk1 hS => ?_)
  have hP := P_kept hP hk1
  refine lv_if_eq (tgt := 20) hx hb dX1_change_4 (by decide) (fun c2 => ?_) (fun c2 => ?_)
  · refine lv_iconst (v := 0) hx hb dX1_change_20 (by decide) ?_
    refine lv_istore (lv' := [(5, .int 0), (0, .ref (ma a)), (1, .int p1), (2, .int p2), (3, .int p3), (4, .int p4)]) hx hb dX1_change_21 hl (by decide) rfl (fun ls hl => ?_)
    refine lv_iload hx hb dX1_change_23 (lv_at hl 0 rfl) ?_
    refine lv_if_eq (tgt := 46) hx hb dX1_change_25 (by decide) (fun c4 => ?_) (fun c4 => ?_)
    · refine lv_ldc (v := (-300000)) hx hb hown hk50 dX1_change_46 ?_
      exact W.iret (v := (-300000)) hx hb hr (fun t ht hW => ⟨⟨(-300000), S, rfl, (by simp only [mF_change, hw1, if_pos c2]), by rw [ht]; exact hP, va_K.moved hW.alike hK⟩, hS.F ht⟩) hS.2.2 dX1_change_48
    · exact absurd c4 (by decide)
  · have hn5 := me_book hw1 c2
    refine lv_iload_n hx hb dX1_change_7 rfl (lv_at hl 3 rfl) ?_
    refine lv_if_lt (tgt := 20) hx hb dX1_change_8 (by decide) (fun c6 => ?_) (fun c6 => ?_)
    · refine lv_iconst (v := 0) hx hb dX1_change_20 (by decide) ?_
      refine lv_istore (lv' := [(5, .int 0), (0, .ref (ma a)), (1, .int p1), (2, .int p2), (3, .int p3), (4, .int p4)]) hx hb dX1_change_21 hl (by decide) rfl (fun ls hl => ?_)
      refine lv_iload hx hb dX1_change_23 (lv_at hl 0 rfl) ?_
      refine lv_if_eq (tgt := 46) hx hb dX1_change_25 (by decide) (fun c7 => ?_) (fun c7 => ?_)
      · refine lv_ldc (v := (-300000)) hx hb hown hk50 dX1_change_46 ?_
        exact W.iret (v := (-300000)) hx hb hr (fun t ht hW => ⟨⟨(-300000), S, rfl, (by simp only [mF_change, hw1, if_neg c2, if_pos c6]), by rw [ht]; exact hP, va_K.moved hW.alike hK⟩, hS.F ht⟩) hS.2.2 dX1_change_48
      · exact absurd c7 (by decide)
    · refine lv_iload_n hx hb dX1_change_11 rfl (lv_at hl 3 rfl) ?_
      refine lv_iconst (v := 4) hx hb dX1_change_12 (by decide) ?_
      refine lv_icmp_ge (tgt := 20) hx hb dX1_change_13 (by decide) (fun c8 => ?_) (fun c8 => ?_)
      · refine lv_iconst (v := 0) hx hb dX1_change_20 (by decide) ?_
        refine lv_istore (lv' := [(5, .int 0), (0, .ref (ma a)), (1, .int p1), (2, .int p2), (3, .int p3), (4, .int p4)]) hx hb dX1_change_21 hl (by decide) rfl (fun ls hl => ?_)
        refine lv_iload hx hb dX1_change_23 (lv_at hl 0 rfl) ?_
        refine lv_if_eq (tgt := 46) hx hb dX1_change_25 (by decide) (fun c9 => ?_) (fun c9 => ?_)
        · refine lv_ldc (v := (-300000)) hx hb hown hk50 dX1_change_46 ?_
          exact W.iret (v := (-300000)) hx hb hr (fun t ht hW => ⟨⟨(-300000), S, rfl, (by simp only [mF_change, hw1, if_neg c2, if_neg c6, if_pos c8]), by rw [ht]; exact hP, va_K.moved hW.alike hK⟩, hS.F ht⟩) hS.2.2 dX1_change_48
        · exact absurd c9 (by decide)
      · refine lv_iconst (v := 1) hx hb dX1_change_16 (by decide) ?_
        refine lv_goto (tgt := 21) hx hb dX1_change_17 (by decide) ?_
        refine lv_istore (lv' := [(5, .int 1), (0, .ref (ma a)), (1, .int p1), (2, .int p2), (3, .int p3), (4, .int p4)]) hx hb dX1_change_21 hl (by decide) rfl (fun ls hl => ?_)
        refine lv_iload hx hb dX1_change_23 (lv_at hl 0 rfl) ?_
        refine lv_if_eq (tgt := 46) hx hb dX1_change_25 (by decide) (fun c10 => ?_) (fun c10 => ?_)
        · exact absurd c10 (by decide)
        · refine lv_iload_n hx hb dX1_change_28 rfl (lv_at hl 2 rfl) ?_
          refine lv_iconst (v := 2) hx hb dX1_change_29 (by decide) ?_
          refine lv_icmp_ne (tgt := 49) hx hb dX1_change_30 (by decide) (fun c11 => ?_) (fun c11 => ?_)
          · refine lv_aload_n hx hb dX1_change_49 rfl (lv_at hl 1 rfl) ?_
            refine lv_iconst (v := 0) hx hb dX1_change_50 (by decide) ?_
            refine m_puti hx hb hts hu hown hO hK hP hS 11 (by decide) hf23 rfl rfl (by decide +kernel) (msFa S) (fun _ => rfl) (fun _ => rfl) dX1_change_51 (fun H locs hP hS => ?_)
            have hI := mI_fault 0 hI
            refine lv_aload_n hx hb dX1_change_54 rfl (lv_at hl 1 rfl) ?_
            refine lv_iload_n hx hb dX1_change_55 rfl (lv_at hl 2 rfl) ?_
            refine lv_iload_n hx hb dX1_change_56 rfl (lv_at hl 3 rfl) ?_
            refine va_calli (va_runV (As := [.int p1, .int p2]) (rest := []) ⟨hx, hb, hml, hown, hts⟩ (c_X1_cell l D a hO (msFa S 0) p1 p2 hI hn5) (cwV 2 hts gX1_change_X1_cell rfl rfl rfl hdX1_cell ⟨Nat.le_of_ble_eq_true rfl, Nat.le_of_ble_eq_true rfl⟩) (mPreV hK hP) rfl rfl hl.1 rfl (lv_room (Nat.le_of_ble_eq_true rfl)) dX1_change_57 ⟨Nat.zero_le _, Nat.zero_le _⟩) hS (fun q _ h => h) (fun q h => h) (fun r12 S12 t H1 locs ht hvm hw12 hB hz1 hk1 hS => ?_)
            obtain ⟨hP, -⟩ := hB
            rw [ht] at hP
            have hI := mI_cell hI hw12
            refine lv_istore (lv' := [(6, .int r12), (5, .int 1), (0, .ref (ma a)), (1, .int p1), (2, .int p2), (3, .int p3), (4, .int p4)]) hx hb dX1_change_60 hl (by decide) rfl (fun ls hl => ?_)
            refine lv_iload_n hx hb dX1_change_62 rfl (lv_at hl 3 rfl) ?_
            refine lv_iconst (v := 2) hx hb dX1_change_63 (by decide) ?_
            refine lv_icmp_ne (tgt := 72) hx hb dX1_change_64 (by decide) (fun c14 => ?_) (fun c14 => ?_)
            · refine lv_iconst (v := 1) hx hb dX1_change_72 (by decide) ?_
              refine lv_istore (lv' := [(7, .int 1), (6, .int r12), (5, .int 1), (0, .ref (ma a)), (1, .int p1), (2, .int p2), (3, .int p3), (4, .int p4)]) hx hb dX1_change_73 hl (by decide) rfl (fun ls hl => ?_)
              refine lv_iload_n hx hb dX1_change_75 rfl (lv_at hl 6 rfl) ?_
              refine lv_if_ne (tgt := 84) hx hb dX1_change_76 (by decide) (fun c15 => ?_) (fun c15 => ?_)
              · refine lv_iload_n hx hb dX1_change_84 rfl (lv_at hl 6 rfl) ?_
                refine lv_iconst (v := 1) hx hb dX1_change_85 (by decide) ?_
                refine lv_icmp_ne (tgt := 95) hx hb dX1_change_86 (by decide) (fun c16 => ?_) (fun c16 => ?_)
                · refine lv_iload_n hx hb dX1_change_95 rfl (lv_at hl 6 rfl) ?_
                  refine lv_iconst (v := 2) hx hb dX1_change_96 (by decide) ?_
                  refine lv_icmp_ne (tgt := 105) hx hb dX1_change_97 (by decide) (fun c17 => ?_) (fun c17 => ?_)
                  · refine lv_iload hx hb dX1_change_105 (lv_at hl 0 rfl) ?_
                    refine lv_ineg hx hb dX1_change_107 ?_
                    refine lv_istore (lv' := [(8, .int (-1)), (7, .int 1), (6, .int r12), (5, .int 1), (0, .ref (ma a)), (1, .int p1), (2, .int p2), (3, .int p3), (4, .int p4)]) hx hb dX1_change_108 hl (by decide) rfl (fun ls hl => ?_)
                    refine lv_aload_n hx hb dX1_change_110 rfl (lv_at hl 4 rfl) ?_
                    refine lv_iload_n hx hb dX1_change_111 rfl (lv_at hl 5 rfl) ?_
                    refine lv_iload_n hx hb dX1_change_112 rfl (lv_at hl 6 rfl) ?_
                    refine lv_iload_n hx hb dX1_change_113 rfl (lv_at hl 5 rfl) ?_
                    refine lv_iconst (v := 3) hx hb dX1_change_114 (by decide) ?_
                    refine lv_icmp_ne (tgt := 129) hx hb dX1_change_115 (by decide) (fun c18 => ?_) (fun c18 => ?_)
                    · refine lv_iload hx hb dX1_change_129 (lv_at hl 2 rfl) ?_
                      refine lv_iload hx hb dX1_change_131 (lv_at hl 0 rfl) ?_
                      refine lv_iadd hx hb dX1_change_133 ?_
                      refine va_callv (va_runV (As := [.int p1, .int p2, .int (r12 + (-1))]) (rest := []) ⟨hx, hb, hml, hown, hts⟩ (c_X1_put l D a hO S12 p1 p2 (r12 + (-1)) hI hn5) (cwV 3 hts gX1_change_X1_put rfl rfl rfl hdX1_put ⟨Nat.le_of_ble_eq_true rfl, Nat.le_of_ble_eq_true rfl⟩) (mPreV hK hP) rfl rfl hl.1 rfl (lv_room (Nat.le_of_ble_eq_true rfl)) dX1_change_134 ⟨Nat.zero_le _, Nat.zero_le _⟩) hS (fun q _ h => h) (fun q h => h) (fun S19 t H1 locs ht hvm hw19 hB hz1 hk1 hS => ?_)
                      obtain ⟨hP, -⟩ := hB
                      rw [ht] at hP
                      have hI := mI_put hI hw19
                      refine lv_aload_n hx hb dX1_change_137 rfl (lv_at hl 4 rfl) ?_
                      refine lv_iload_n hx hb dX1_change_138 rfl (lv_at hl 5 rfl) ?_
                      refine lv_iload_n hx hb dX1_change_139 rfl (lv_at hl 6 rfl) ?_
                      refine va_calli (va_runV (As := [.int p1, .int p2]) (rest := []) ⟨hx, hb, hml, hown, hts⟩ (c_X1_cell l D a hO S19 p1 p2 hI hn5) (cwV 2 hts gX1_change_X1_cell rfl rfl rfl hdX1_cell ⟨Nat.le_of_ble_eq_true rfl, Nat.le_of_ble_eq_true rfl⟩) (mPreV hK hP) rfl rfl hl.1 rfl (lv_room (Nat.le_of_ble_eq_true rfl)) dX1_change_140 ⟨Nat.zero_le _, Nat.zero_le _⟩) hS (fun q _ h => h) (fun q h => h) (fun r21 S21 t H1 locs ht hvm hw21 hB hz1 hk1 hS => ?_)
                      obtain ⟨hP, -⟩ := hB
                      rw [ht] at hP
                      have hI := mI_cell hI hw21
                      refine lv_istore (lv' := [(9, .int r21), (8, .int (-1)), (7, .int 1), (6, .int r12), (5, .int 1), (0, .ref (ma a)), (1, .int p1), (2, .int p2), (3, .int p3), (4, .int p4)]) hx hb dX1_change_143 hl (by decide) rfl (fun ls hl => ?_)
                      refine lv_aload_n hx hb dX1_change_145 rfl (lv_at hl 5 rfl) ?_
                      refine lv_iload hx hb dX1_change_146 (lv_at hl 0 rfl) ?_
                      refine va_calli (va_runV (As := [.int r21]) (rest := []) ⟨hx, hb, hml, hown, hts⟩ (c_X1_answer l D a hO S21 r21) (cwV 1 hts gX1_change_X1_answer rfl rfl rfl hdX1_answer ⟨Nat.le_of_ble_eq_true rfl, Nat.le_of_ble_eq_true rfl⟩) (mPreV hK hP) rfl rfl hl.1 rfl (lv_room (Nat.le_of_ble_eq_true rfl)) dX1_change_148 ⟨Nat.zero_le _, Nat.zero_le _⟩) hS (fun q _ h => h) (fun q h => h) (fun r23 S23 t H1 locs ht hvm hw23 hB hz1 hk1 hS => ?_)
                      obtain ⟨hP, -⟩ := hB
                      rw [ht] at hP
                      exact W.iret (v := r23) hx hb hr (fun t ht hW => ⟨⟨r23, S23, rfl, (by simp only [mF_change, hw1, if_neg c2, if_neg c6, if_neg c8, if_neg c11, hw12, if_neg c15, if_neg c16, if_neg c17, if_neg c18, hw19, hw21, hw23]), by rw [ht]; exact hP, va_K.moved hW.alike hK⟩, hS.F ht⟩) hS.2.2 dX1_change_151
                    · refine lv_iload hx hb dX1_change_118 (lv_at hl 2 rfl) ?_
                      refine lv_iload_n hx hb dX1_change_120 rfl (lv_at hl 7 rfl) ?_
                      refine lv_iload hx hb dX1_change_121 (lv_at hl 8 rfl) ?_
                      refine va_calli (va_runS (As := [.int r12, .int p3, .int p4]) (rest := [.int p2, .int p1, .ref (ma a)]) ⟨hx, hb, hml, hown, hts⟩ (c_X1_gate l r12 p3 p4) (va_cwS 3 hts gX1_change_X1_gate rfl rfl rfl hdX1_gate ⟨Nat.le_of_ble_eq_true rfl, Nat.le_of_ble_eq_true rfl⟩) pPreS rfl rfl hl.1 rfl (lv_room (Nat.le_of_ble_eq_true rfl)) dX1_change_123 ⟨Nat.zero_le _, Nat.zero_le _⟩) hS (fun q _ h => h.elim) (fun q h => h.elim) (fun r25 u25 t H1 locs ht hvm hw25 hB hz1 hk1 hS => ?_)
                      have hP := P_kept hP hk1
                      refine lv_goto (tgt := 134) hx hb dX1_change_126 (by decide) ?_
                      refine va_callv (va_runV (As := [.int p1, .int p2, .int r25]) (rest := []) ⟨hx, hb, hml, hown, hts⟩ (c_X1_put l D a hO S12 p1 p2 r25 hI hn5) (cwV 3 hts gX1_change_X1_put rfl rfl rfl hdX1_put ⟨Nat.le_of_ble_eq_true rfl, Nat.le_of_ble_eq_true rfl⟩) (mPreV hK hP) rfl rfl hl.1 rfl (lv_room (Nat.le_of_ble_eq_true rfl)) dX1_change_134 ⟨Nat.zero_le _, Nat.zero_le _⟩) hS (fun q _ h => h) (fun q h => h) (fun S26 t H1 locs ht hvm hw26 hB hz1 hk1 hS => ?_)
                      obtain ⟨hP, -⟩ := hB
                      rw [ht] at hP
                      have hI := mI_put hI hw26
                      refine lv_aload_n hx hb dX1_change_137 rfl (lv_at hl 4 rfl) ?_
                      refine lv_iload_n hx hb dX1_change_138 rfl (lv_at hl 5 rfl) ?_
                      refine lv_iload_n hx hb dX1_change_139 rfl (lv_at hl 6 rfl) ?_
                      refine va_calli (va_runV (As := [.int p1, .int p2]) (rest := []) ⟨hx, hb, hml, hown, hts⟩ (c_X1_cell l D a hO S26 p1 p2 hI hn5) (cwV 2 hts gX1_change_X1_cell rfl rfl rfl hdX1_cell ⟨Nat.le_of_ble_eq_true rfl, Nat.le_of_ble_eq_true rfl⟩) (mPreV hK hP) rfl rfl hl.1 rfl (lv_room (Nat.le_of_ble_eq_true rfl)) dX1_change_140 ⟨Nat.zero_le _, Nat.zero_le _⟩) hS (fun q _ h => h) (fun q h => h) (fun r28 S28 t H1 locs ht hvm hw28 hB hz1 hk1 hS => ?_)
                      obtain ⟨hP, -⟩ := hB
                      rw [ht] at hP
                      have hI := mI_cell hI hw28
                      refine lv_istore (lv' := [(9, .int r28), (8, .int (-1)), (7, .int 1), (6, .int r12), (5, .int 1), (0, .ref (ma a)), (1, .int p1), (2, .int p2), (3, .int p3), (4, .int p4)]) hx hb dX1_change_143 hl (by decide) rfl (fun ls hl => ?_)
                      refine lv_aload_n hx hb dX1_change_145 rfl (lv_at hl 5 rfl) ?_
                      refine lv_iload hx hb dX1_change_146 (lv_at hl 0 rfl) ?_
                      refine va_calli (va_runV (As := [.int r28]) (rest := []) ⟨hx, hb, hml, hown, hts⟩ (c_X1_answer l D a hO S28 r28) (cwV 1 hts gX1_change_X1_answer rfl rfl rfl hdX1_answer ⟨Nat.le_of_ble_eq_true rfl, Nat.le_of_ble_eq_true rfl⟩) (mPreV hK hP) rfl rfl hl.1 rfl (lv_room (Nat.le_of_ble_eq_true rfl)) dX1_change_148 ⟨Nat.zero_le _, Nat.zero_le _⟩) hS (fun q _ h => h) (fun q h => h) (fun r30 S30 t H1 locs ht hvm hw30 hB hz1 hk1 hS => ?_)
                      obtain ⟨hP, -⟩ := hB
                      rw [ht] at hP
                      exact W.iret (v := r30) hx hb hr (fun t ht hW => ⟨⟨r30, S30, rfl, (by simp only [mF_change, hw1, if_neg c2, if_neg c6, if_neg c8, if_neg c11, hw12, if_neg c15, if_neg c16, if_neg c17, if_pos c18, hw25, hw26, hw28, hw30]), by rw [ht]; exact hP, va_K.moved hW.alike hK⟩, hS.F ht⟩) hS.2.2 dX1_change_151
                  · refine lv_iload hx hb dX1_change_100 (lv_at hl 0 rfl) ?_
                    refine lv_goto (tgt := 108) hx hb dX1_change_102 (by decide) ?_
                    refine lv_istore (lv' := [(8, .int 1), (7, .int 1), (6, .int r12), (5, .int 1), (0, .ref (ma a)), (1, .int p1), (2, .int p2), (3, .int p3), (4, .int p4)]) hx hb dX1_change_108 hl (by decide) rfl (fun ls hl => ?_)
                    refine lv_aload_n hx hb dX1_change_110 rfl (lv_at hl 4 rfl) ?_
                    refine lv_iload_n hx hb dX1_change_111 rfl (lv_at hl 5 rfl) ?_
                    refine lv_iload_n hx hb dX1_change_112 rfl (lv_at hl 6 rfl) ?_
                    refine lv_iload_n hx hb dX1_change_113 rfl (lv_at hl 5 rfl) ?_
                    refine lv_iconst (v := 3) hx hb dX1_change_114 (by decide) ?_
                    refine lv_icmp_ne (tgt := 129) hx hb dX1_change_115 (by decide) (fun c32 => ?_) (fun c32 => ?_)
                    · refine lv_iload hx hb dX1_change_129 (lv_at hl 2 rfl) ?_
                      refine lv_iload hx hb dX1_change_131 (lv_at hl 0 rfl) ?_
                      refine lv_iadd hx hb dX1_change_133 ?_
                      refine va_callv (va_runV (As := [.int p1, .int p2, .int (r12 + 1)]) (rest := []) ⟨hx, hb, hml, hown, hts⟩ (c_X1_put l D a hO S12 p1 p2 (r12 + 1) hI hn5) (cwV 3 hts gX1_change_X1_put rfl rfl rfl hdX1_put ⟨Nat.le_of_ble_eq_true rfl, Nat.le_of_ble_eq_true rfl⟩) (mPreV hK hP) rfl rfl hl.1 rfl (lv_room (Nat.le_of_ble_eq_true rfl)) dX1_change_134 ⟨Nat.zero_le _, Nat.zero_le _⟩) hS (fun q _ h => h) (fun q h => h) (fun S33 t H1 locs ht hvm hw33 hB hz1 hk1 hS => ?_)
                      obtain ⟨hP, -⟩ := hB
                      rw [ht] at hP
                      have hI := mI_put hI hw33
                      refine lv_aload_n hx hb dX1_change_137 rfl (lv_at hl 4 rfl) ?_
                      refine lv_iload_n hx hb dX1_change_138 rfl (lv_at hl 5 rfl) ?_
                      refine lv_iload_n hx hb dX1_change_139 rfl (lv_at hl 6 rfl) ?_
                      refine va_calli (va_runV (As := [.int p1, .int p2]) (rest := []) ⟨hx, hb, hml, hown, hts⟩ (c_X1_cell l D a hO S33 p1 p2 hI hn5) (cwV 2 hts gX1_change_X1_cell rfl rfl rfl hdX1_cell ⟨Nat.le_of_ble_eq_true rfl, Nat.le_of_ble_eq_true rfl⟩) (mPreV hK hP) rfl rfl hl.1 rfl (lv_room (Nat.le_of_ble_eq_true rfl)) dX1_change_140 ⟨Nat.zero_le _, Nat.zero_le _⟩) hS (fun q _ h => h) (fun q h => h) (fun r35 S35 t H1 locs ht hvm hw35 hB hz1 hk1 hS => ?_)
                      obtain ⟨hP, -⟩ := hB
                      rw [ht] at hP
                      have hI := mI_cell hI hw35
                      refine lv_istore (lv' := [(9, .int r35), (8, .int 1), (7, .int 1), (6, .int r12), (5, .int 1), (0, .ref (ma a)), (1, .int p1), (2, .int p2), (3, .int p3), (4, .int p4)]) hx hb dX1_change_143 hl (by decide) rfl (fun ls hl => ?_)
                      refine lv_aload_n hx hb dX1_change_145 rfl (lv_at hl 5 rfl) ?_
                      refine lv_iload hx hb dX1_change_146 (lv_at hl 0 rfl) ?_
                      refine va_calli (va_runV (As := [.int r35]) (rest := []) ⟨hx, hb, hml, hown, hts⟩ (c_X1_answer l D a hO S35 r35) (cwV 1 hts gX1_change_X1_answer rfl rfl rfl hdX1_answer ⟨Nat.le_of_ble_eq_true rfl, Nat.le_of_ble_eq_true rfl⟩) (mPreV hK hP) rfl rfl hl.1 rfl (lv_room (Nat.le_of_ble_eq_true rfl)) dX1_change_148 ⟨Nat.zero_le _, Nat.zero_le _⟩) hS (fun q _ h => h) (fun q h => h) (fun r37 S37 t H1 locs ht hvm hw37 hB hz1 hk1 hS => ?_)
                      obtain ⟨hP, -⟩ := hB
                      rw [ht] at hP
                      exact W.iret (v := r37) hx hb hr (fun t ht hW => ⟨⟨r37, S37, rfl, (by simp only [mF_change, hw1, if_neg c2, if_neg c6, if_neg c8, if_neg c11, hw12, if_neg c15, if_neg c16, if_pos c17, if_neg c32, hw33, hw35, hw37]), by rw [ht]; exact hP, va_K.moved hW.alike hK⟩, hS.F ht⟩) hS.2.2 dX1_change_151
                    · refine lv_iload hx hb dX1_change_118 (lv_at hl 2 rfl) ?_
                      refine lv_iload_n hx hb dX1_change_120 rfl (lv_at hl 7 rfl) ?_
                      refine lv_iload hx hb dX1_change_121 (lv_at hl 8 rfl) ?_
                      refine va_calli (va_runS (As := [.int r12, .int p3, .int p4]) (rest := [.int p2, .int p1, .ref (ma a)]) ⟨hx, hb, hml, hown, hts⟩ (c_X1_gate l r12 p3 p4) (va_cwS 3 hts gX1_change_X1_gate rfl rfl rfl hdX1_gate ⟨Nat.le_of_ble_eq_true rfl, Nat.le_of_ble_eq_true rfl⟩) pPreS rfl rfl hl.1 rfl (lv_room (Nat.le_of_ble_eq_true rfl)) dX1_change_123 ⟨Nat.zero_le _, Nat.zero_le _⟩) hS (fun q _ h => h.elim) (fun q h => h.elim) (fun r39 u39 t H1 locs ht hvm hw39 hB hz1 hk1 hS => ?_)
                      have hP := P_kept hP hk1
                      refine lv_goto (tgt := 134) hx hb dX1_change_126 (by decide) ?_
                      refine va_callv (va_runV (As := [.int p1, .int p2, .int r39]) (rest := []) ⟨hx, hb, hml, hown, hts⟩ (c_X1_put l D a hO S12 p1 p2 r39 hI hn5) (cwV 3 hts gX1_change_X1_put rfl rfl rfl hdX1_put ⟨Nat.le_of_ble_eq_true rfl, Nat.le_of_ble_eq_true rfl⟩) (mPreV hK hP) rfl rfl hl.1 rfl (lv_room (Nat.le_of_ble_eq_true rfl)) dX1_change_134 ⟨Nat.zero_le _, Nat.zero_le _⟩) hS (fun q _ h => h) (fun q h => h) (fun S40 t H1 locs ht hvm hw40 hB hz1 hk1 hS => ?_)
                      obtain ⟨hP, -⟩ := hB
                      rw [ht] at hP
                      have hI := mI_put hI hw40
                      refine lv_aload_n hx hb dX1_change_137 rfl (lv_at hl 4 rfl) ?_
                      refine lv_iload_n hx hb dX1_change_138 rfl (lv_at hl 5 rfl) ?_
                      refine lv_iload_n hx hb dX1_change_139 rfl (lv_at hl 6 rfl) ?_
                      refine va_calli (va_runV (As := [.int p1, .int p2]) (rest := []) ⟨hx, hb, hml, hown, hts⟩ (c_X1_cell l D a hO S40 p1 p2 hI hn5) (cwV 2 hts gX1_change_X1_cell rfl rfl rfl hdX1_cell ⟨Nat.le_of_ble_eq_true rfl, Nat.le_of_ble_eq_true rfl⟩) (mPreV hK hP) rfl rfl hl.1 rfl (lv_room (Nat.le_of_ble_eq_true rfl)) dX1_change_140 ⟨Nat.zero_le _, Nat.zero_le _⟩) hS (fun q _ h => h) (fun q h => h) (fun r42 S42 t H1 locs ht hvm hw42 hB hz1 hk1 hS => ?_)
                      obtain ⟨hP, -⟩ := hB
                      rw [ht] at hP
                      have hI := mI_cell hI hw42
                      refine lv_istore (lv' := [(9, .int r42), (8, .int 1), (7, .int 1), (6, .int r12), (5, .int 1), (0, .ref (ma a)), (1, .int p1), (2, .int p2), (3, .int p3), (4, .int p4)]) hx hb dX1_change_143 hl (by decide) rfl (fun ls hl => ?_)
                      refine lv_aload_n hx hb dX1_change_145 rfl (lv_at hl 5 rfl) ?_
                      refine lv_iload hx hb dX1_change_146 (lv_at hl 0 rfl) ?_
                      refine va_calli (va_runV (As := [.int r42]) (rest := []) ⟨hx, hb, hml, hown, hts⟩ (c_X1_answer l D a hO S42 r42) (cwV 1 hts gX1_change_X1_answer rfl rfl rfl hdX1_answer ⟨Nat.le_of_ble_eq_true rfl, Nat.le_of_ble_eq_true rfl⟩) (mPreV hK hP) rfl rfl hl.1 rfl (lv_room (Nat.le_of_ble_eq_true rfl)) dX1_change_148 ⟨Nat.zero_le _, Nat.zero_le _⟩) hS (fun q _ h => h) (fun q h => h) (fun r44 S44 t H1 locs ht hvm hw44 hB hz1 hk1 hS => ?_)
                      obtain ⟨hP, -⟩ := hB
                      rw [ht] at hP
                      exact W.iret (v := r44) hx hb hr (fun t ht hW => ⟨⟨r44, S44, rfl, (by simp only [mF_change, hw1, if_neg c2, if_neg c6, if_neg c8, if_neg c11, hw12, if_neg c15, if_neg c16, if_pos c17, if_pos c32, hw39, hw40, hw42, hw44]), by rw [ht]; exact hP, va_K.moved hW.alike hK⟩, hS.F ht⟩) hS.2.2 dX1_change_151
                · refine lv_iload hx hb dX1_change_89 (lv_at hl 7 rfl) ?_
                  refine lv_ineg hx hb dX1_change_91 ?_
                  refine lv_goto (tgt := 108) hx hb dX1_change_92 (by decide) ?_
                  refine lv_istore (lv' := [(8, .int (-p4)), (7, .int 1), (6, .int r12), (5, .int 1), (0, .ref (ma a)), (1, .int p1), (2, .int p2), (3, .int p3), (4, .int p4)]) hx hb dX1_change_108 hl (by decide) rfl (fun ls hl => ?_)
                  refine lv_aload_n hx hb dX1_change_110 rfl (lv_at hl 4 rfl) ?_
                  refine lv_iload_n hx hb dX1_change_111 rfl (lv_at hl 5 rfl) ?_
                  refine lv_iload_n hx hb dX1_change_112 rfl (lv_at hl 6 rfl) ?_
                  refine lv_iload_n hx hb dX1_change_113 rfl (lv_at hl 5 rfl) ?_
                  refine lv_iconst (v := 3) hx hb dX1_change_114 (by decide) ?_
                  refine lv_icmp_ne (tgt := 129) hx hb dX1_change_115 (by decide) (fun c46 => ?_) (fun c46 => ?_)
                  · refine lv_iload hx hb dX1_change_129 (lv_at hl 2 rfl) ?_
                    refine lv_iload hx hb dX1_change_131 (lv_at hl 0 rfl) ?_
                    refine lv_iadd hx hb dX1_change_133 ?_
                    refine va_callv (va_runV (As := [.int p1, .int p2, .int (r12 + (-p4))]) (rest := []) ⟨hx, hb, hml, hown, hts⟩ (c_X1_put l D a hO S12 p1 p2 (r12 + (-p4)) hI hn5) (cwV 3 hts gX1_change_X1_put rfl rfl rfl hdX1_put ⟨Nat.le_of_ble_eq_true rfl, Nat.le_of_ble_eq_true rfl⟩) (mPreV hK hP) rfl rfl hl.1 rfl (lv_room (Nat.le_of_ble_eq_true rfl)) dX1_change_134 ⟨Nat.zero_le _, Nat.zero_le _⟩) hS (fun q _ h => h) (fun q h => h) (fun S47 t H1 locs ht hvm hw47 hB hz1 hk1 hS => ?_)
                    obtain ⟨hP, -⟩ := hB
                    rw [ht] at hP
                    have hI := mI_put hI hw47
                    refine lv_aload_n hx hb dX1_change_137 rfl (lv_at hl 4 rfl) ?_
                    refine lv_iload_n hx hb dX1_change_138 rfl (lv_at hl 5 rfl) ?_
                    refine lv_iload_n hx hb dX1_change_139 rfl (lv_at hl 6 rfl) ?_
                    refine va_calli (va_runV (As := [.int p1, .int p2]) (rest := []) ⟨hx, hb, hml, hown, hts⟩ (c_X1_cell l D a hO S47 p1 p2 hI hn5) (cwV 2 hts gX1_change_X1_cell rfl rfl rfl hdX1_cell ⟨Nat.le_of_ble_eq_true rfl, Nat.le_of_ble_eq_true rfl⟩) (mPreV hK hP) rfl rfl hl.1 rfl (lv_room (Nat.le_of_ble_eq_true rfl)) dX1_change_140 ⟨Nat.zero_le _, Nat.zero_le _⟩) hS (fun q _ h => h) (fun q h => h) (fun r49 S49 t H1 locs ht hvm hw49 hB hz1 hk1 hS => ?_)
                    obtain ⟨hP, -⟩ := hB
                    rw [ht] at hP
                    have hI := mI_cell hI hw49
                    refine lv_istore (lv' := [(9, .int r49), (8, .int (-p4)), (7, .int 1), (6, .int r12), (5, .int 1), (0, .ref (ma a)), (1, .int p1), (2, .int p2), (3, .int p3), (4, .int p4)]) hx hb dX1_change_143 hl (by decide) rfl (fun ls hl => ?_)
                    refine lv_aload_n hx hb dX1_change_145 rfl (lv_at hl 5 rfl) ?_
                    refine lv_iload hx hb dX1_change_146 (lv_at hl 0 rfl) ?_
                    refine va_calli (va_runV (As := [.int r49]) (rest := []) ⟨hx, hb, hml, hown, hts⟩ (c_X1_answer l D a hO S49 r49) (cwV 1 hts gX1_change_X1_answer rfl rfl rfl hdX1_answer ⟨Nat.le_of_ble_eq_true rfl, Nat.le_of_ble_eq_true rfl⟩) (mPreV hK hP) rfl rfl hl.1 rfl (lv_room (Nat.le_of_ble_eq_true rfl)) dX1_change_148 ⟨Nat.zero_le _, Nat.zero_le _⟩) hS (fun q _ h => h) (fun q h => h) (fun r51 S51 t H1 locs ht hvm hw51 hB hz1 hk1 hS => ?_)
                    obtain ⟨hP, -⟩ := hB
                    rw [ht] at hP
                    exact W.iret (v := r51) hx hb hr (fun t ht hW => ⟨⟨r51, S51, rfl, (by simp only [mF_change, hw1, if_neg c2, if_neg c6, if_neg c8, if_neg c11, hw12, if_neg c15, if_pos c16, if_neg c46, hw47, hw49, hw51]), by rw [ht]; exact hP, va_K.moved hW.alike hK⟩, hS.F ht⟩) hS.2.2 dX1_change_151
                  · refine lv_iload hx hb dX1_change_118 (lv_at hl 2 rfl) ?_
                    refine lv_iload_n hx hb dX1_change_120 rfl (lv_at hl 7 rfl) ?_
                    refine lv_iload hx hb dX1_change_121 (lv_at hl 8 rfl) ?_
                    refine va_calli (va_runS (As := [.int r12, .int p3, .int p4]) (rest := [.int p2, .int p1, .ref (ma a)]) ⟨hx, hb, hml, hown, hts⟩ (c_X1_gate l r12 p3 p4) (va_cwS 3 hts gX1_change_X1_gate rfl rfl rfl hdX1_gate ⟨Nat.le_of_ble_eq_true rfl, Nat.le_of_ble_eq_true rfl⟩) pPreS rfl rfl hl.1 rfl (lv_room (Nat.le_of_ble_eq_true rfl)) dX1_change_123 ⟨Nat.zero_le _, Nat.zero_le _⟩) hS (fun q _ h => h.elim) (fun q h => h.elim) (fun r53 u53 t H1 locs ht hvm hw53 hB hz1 hk1 hS => ?_)
                    have hP := P_kept hP hk1
                    refine lv_goto (tgt := 134) hx hb dX1_change_126 (by decide) ?_
                    refine va_callv (va_runV (As := [.int p1, .int p2, .int r53]) (rest := []) ⟨hx, hb, hml, hown, hts⟩ (c_X1_put l D a hO S12 p1 p2 r53 hI hn5) (cwV 3 hts gX1_change_X1_put rfl rfl rfl hdX1_put ⟨Nat.le_of_ble_eq_true rfl, Nat.le_of_ble_eq_true rfl⟩) (mPreV hK hP) rfl rfl hl.1 rfl (lv_room (Nat.le_of_ble_eq_true rfl)) dX1_change_134 ⟨Nat.zero_le _, Nat.zero_le _⟩) hS (fun q _ h => h) (fun q h => h) (fun S54 t H1 locs ht hvm hw54 hB hz1 hk1 hS => ?_)
                    obtain ⟨hP, -⟩ := hB
                    rw [ht] at hP
                    have hI := mI_put hI hw54
                    refine lv_aload_n hx hb dX1_change_137 rfl (lv_at hl 4 rfl) ?_
                    refine lv_iload_n hx hb dX1_change_138 rfl (lv_at hl 5 rfl) ?_
                    refine lv_iload_n hx hb dX1_change_139 rfl (lv_at hl 6 rfl) ?_
                    refine va_calli (va_runV (As := [.int p1, .int p2]) (rest := []) ⟨hx, hb, hml, hown, hts⟩ (c_X1_cell l D a hO S54 p1 p2 hI hn5) (cwV 2 hts gX1_change_X1_cell rfl rfl rfl hdX1_cell ⟨Nat.le_of_ble_eq_true rfl, Nat.le_of_ble_eq_true rfl⟩) (mPreV hK hP) rfl rfl hl.1 rfl (lv_room (Nat.le_of_ble_eq_true rfl)) dX1_change_140 ⟨Nat.zero_le _, Nat.zero_le _⟩) hS (fun q _ h => h) (fun q h => h) (fun r56 S56 t H1 locs ht hvm hw56 hB hz1 hk1 hS => ?_)
                    obtain ⟨hP, -⟩ := hB
                    rw [ht] at hP
                    have hI := mI_cell hI hw56
                    refine lv_istore (lv' := [(9, .int r56), (8, .int (-p4)), (7, .int 1), (6, .int r12), (5, .int 1), (0, .ref (ma a)), (1, .int p1), (2, .int p2), (3, .int p3), (4, .int p4)]) hx hb dX1_change_143 hl (by decide) rfl (fun ls hl => ?_)
                    refine lv_aload_n hx hb dX1_change_145 rfl (lv_at hl 5 rfl) ?_
                    refine lv_iload hx hb dX1_change_146 (lv_at hl 0 rfl) ?_
                    refine va_calli (va_runV (As := [.int r56]) (rest := []) ⟨hx, hb, hml, hown, hts⟩ (c_X1_answer l D a hO S56 r56) (cwV 1 hts gX1_change_X1_answer rfl rfl rfl hdX1_answer ⟨Nat.le_of_ble_eq_true rfl, Nat.le_of_ble_eq_true rfl⟩) (mPreV hK hP) rfl rfl hl.1 rfl (lv_room (Nat.le_of_ble_eq_true rfl)) dX1_change_148 ⟨Nat.zero_le _, Nat.zero_le _⟩) hS (fun q _ h => h) (fun q h => h) (fun r58 S58 t H1 locs ht hvm hw58 hB hz1 hk1 hS => ?_)
                    obtain ⟨hP, -⟩ := hB
                    rw [ht] at hP
                    exact W.iret (v := r58) hx hb hr (fun t ht hW => ⟨⟨r58, S58, rfl, (by simp only [mF_change, hw1, if_neg c2, if_neg c6, if_neg c8, if_neg c11, hw12, if_neg c15, if_pos c16, if_pos c46, hw53, hw54, hw56, hw58]), by rw [ht]; exact hP, va_K.moved hW.alike hK⟩, hS.F ht⟩) hS.2.2 dX1_change_151
              · refine lv_iload hx hb dX1_change_79 (lv_at hl 7 rfl) ?_
                refine lv_goto (tgt := 108) hx hb dX1_change_81 (by decide) ?_
                refine lv_istore (lv' := [(8, .int p4), (7, .int 1), (6, .int r12), (5, .int 1), (0, .ref (ma a)), (1, .int p1), (2, .int p2), (3, .int p3), (4, .int p4)]) hx hb dX1_change_108 hl (by decide) rfl (fun ls hl => ?_)
                refine lv_aload_n hx hb dX1_change_110 rfl (lv_at hl 4 rfl) ?_
                refine lv_iload_n hx hb dX1_change_111 rfl (lv_at hl 5 rfl) ?_
                refine lv_iload_n hx hb dX1_change_112 rfl (lv_at hl 6 rfl) ?_
                refine lv_iload_n hx hb dX1_change_113 rfl (lv_at hl 5 rfl) ?_
                refine lv_iconst (v := 3) hx hb dX1_change_114 (by decide) ?_
                refine lv_icmp_ne (tgt := 129) hx hb dX1_change_115 (by decide) (fun c60 => ?_) (fun c60 => ?_)
                · refine lv_iload hx hb dX1_change_129 (lv_at hl 2 rfl) ?_
                  refine lv_iload hx hb dX1_change_131 (lv_at hl 0 rfl) ?_
                  refine lv_iadd hx hb dX1_change_133 ?_
                  refine va_callv (va_runV (As := [.int p1, .int p2, .int (r12 + p4)]) (rest := []) ⟨hx, hb, hml, hown, hts⟩ (c_X1_put l D a hO S12 p1 p2 (r12 + p4) hI hn5) (cwV 3 hts gX1_change_X1_put rfl rfl rfl hdX1_put ⟨Nat.le_of_ble_eq_true rfl, Nat.le_of_ble_eq_true rfl⟩) (mPreV hK hP) rfl rfl hl.1 rfl (lv_room (Nat.le_of_ble_eq_true rfl)) dX1_change_134 ⟨Nat.zero_le _, Nat.zero_le _⟩) hS (fun q _ h => h) (fun q h => h) (fun S61 t H1 locs ht hvm hw61 hB hz1 hk1 hS => ?_)
                  obtain ⟨hP, -⟩ := hB
                  rw [ht] at hP
                  have hI := mI_put hI hw61
                  refine lv_aload_n hx hb dX1_change_137 rfl (lv_at hl 4 rfl) ?_
                  refine lv_iload_n hx hb dX1_change_138 rfl (lv_at hl 5 rfl) ?_
                  refine lv_iload_n hx hb dX1_change_139 rfl (lv_at hl 6 rfl) ?_
                  refine va_calli (va_runV (As := [.int p1, .int p2]) (rest := []) ⟨hx, hb, hml, hown, hts⟩ (c_X1_cell l D a hO S61 p1 p2 hI hn5) (cwV 2 hts gX1_change_X1_cell rfl rfl rfl hdX1_cell ⟨Nat.le_of_ble_eq_true rfl, Nat.le_of_ble_eq_true rfl⟩) (mPreV hK hP) rfl rfl hl.1 rfl (lv_room (Nat.le_of_ble_eq_true rfl)) dX1_change_140 ⟨Nat.zero_le _, Nat.zero_le _⟩) hS (fun q _ h => h) (fun q h => h) (fun r63 S63 t H1 locs ht hvm hw63 hB hz1 hk1 hS => ?_)
                  obtain ⟨hP, -⟩ := hB
                  rw [ht] at hP
                  have hI := mI_cell hI hw63
                  refine lv_istore (lv' := [(9, .int r63), (8, .int p4), (7, .int 1), (6, .int r12), (5, .int 1), (0, .ref (ma a)), (1, .int p1), (2, .int p2), (3, .int p3), (4, .int p4)]) hx hb dX1_change_143 hl (by decide) rfl (fun ls hl => ?_)
                  refine lv_aload_n hx hb dX1_change_145 rfl (lv_at hl 5 rfl) ?_
                  refine lv_iload hx hb dX1_change_146 (lv_at hl 0 rfl) ?_
                  refine va_calli (va_runV (As := [.int r63]) (rest := []) ⟨hx, hb, hml, hown, hts⟩ (c_X1_answer l D a hO S63 r63) (cwV 1 hts gX1_change_X1_answer rfl rfl rfl hdX1_answer ⟨Nat.le_of_ble_eq_true rfl, Nat.le_of_ble_eq_true rfl⟩) (mPreV hK hP) rfl rfl hl.1 rfl (lv_room (Nat.le_of_ble_eq_true rfl)) dX1_change_148 ⟨Nat.zero_le _, Nat.zero_le _⟩) hS (fun q _ h => h) (fun q h => h) (fun r65 S65 t H1 locs ht hvm hw65 hB hz1 hk1 hS => ?_)
                  obtain ⟨hP, -⟩ := hB
                  rw [ht] at hP
                  exact W.iret (v := r65) hx hb hr (fun t ht hW => ⟨⟨r65, S65, rfl, (by simp only [mF_change, hw1, if_neg c2, if_neg c6, if_neg c8, if_neg c11, hw12, if_pos c15, if_neg c60, hw61, hw63, hw65]), by rw [ht]; exact hP, va_K.moved hW.alike hK⟩, hS.F ht⟩) hS.2.2 dX1_change_151
                · refine lv_iload hx hb dX1_change_118 (lv_at hl 2 rfl) ?_
                  refine lv_iload_n hx hb dX1_change_120 rfl (lv_at hl 7 rfl) ?_
                  refine lv_iload hx hb dX1_change_121 (lv_at hl 8 rfl) ?_
                  refine va_calli (va_runS (As := [.int r12, .int p3, .int p4]) (rest := [.int p2, .int p1, .ref (ma a)]) ⟨hx, hb, hml, hown, hts⟩ (c_X1_gate l r12 p3 p4) (va_cwS 3 hts gX1_change_X1_gate rfl rfl rfl hdX1_gate ⟨Nat.le_of_ble_eq_true rfl, Nat.le_of_ble_eq_true rfl⟩) pPreS rfl rfl hl.1 rfl (lv_room (Nat.le_of_ble_eq_true rfl)) dX1_change_123 ⟨Nat.zero_le _, Nat.zero_le _⟩) hS (fun q _ h => h.elim) (fun q h => h.elim) (fun r67 u67 t H1 locs ht hvm hw67 hB hz1 hk1 hS => ?_)
                  have hP := P_kept hP hk1
                  refine lv_goto (tgt := 134) hx hb dX1_change_126 (by decide) ?_
                  refine va_callv (va_runV (As := [.int p1, .int p2, .int r67]) (rest := []) ⟨hx, hb, hml, hown, hts⟩ (c_X1_put l D a hO S12 p1 p2 r67 hI hn5) (cwV 3 hts gX1_change_X1_put rfl rfl rfl hdX1_put ⟨Nat.le_of_ble_eq_true rfl, Nat.le_of_ble_eq_true rfl⟩) (mPreV hK hP) rfl rfl hl.1 rfl (lv_room (Nat.le_of_ble_eq_true rfl)) dX1_change_134 ⟨Nat.zero_le _, Nat.zero_le _⟩) hS (fun q _ h => h) (fun q h => h) (fun S68 t H1 locs ht hvm hw68 hB hz1 hk1 hS => ?_)
                  obtain ⟨hP, -⟩ := hB
                  rw [ht] at hP
                  have hI := mI_put hI hw68
                  refine lv_aload_n hx hb dX1_change_137 rfl (lv_at hl 4 rfl) ?_
                  refine lv_iload_n hx hb dX1_change_138 rfl (lv_at hl 5 rfl) ?_
                  refine lv_iload_n hx hb dX1_change_139 rfl (lv_at hl 6 rfl) ?_
                  refine va_calli (va_runV (As := [.int p1, .int p2]) (rest := []) ⟨hx, hb, hml, hown, hts⟩ (c_X1_cell l D a hO S68 p1 p2 hI hn5) (cwV 2 hts gX1_change_X1_cell rfl rfl rfl hdX1_cell ⟨Nat.le_of_ble_eq_true rfl, Nat.le_of_ble_eq_true rfl⟩) (mPreV hK hP) rfl rfl hl.1 rfl (lv_room (Nat.le_of_ble_eq_true rfl)) dX1_change_140 ⟨Nat.zero_le _, Nat.zero_le _⟩) hS (fun q _ h => h) (fun q h => h) (fun r70 S70 t H1 locs ht hvm hw70 hB hz1 hk1 hS => ?_)
                  obtain ⟨hP, -⟩ := hB
                  rw [ht] at hP
                  have hI := mI_cell hI hw70
                  refine lv_istore (lv' := [(9, .int r70), (8, .int p4), (7, .int 1), (6, .int r12), (5, .int 1), (0, .ref (ma a)), (1, .int p1), (2, .int p2), (3, .int p3), (4, .int p4)]) hx hb dX1_change_143 hl (by decide) rfl (fun ls hl => ?_)
                  refine lv_aload_n hx hb dX1_change_145 rfl (lv_at hl 5 rfl) ?_
                  refine lv_iload hx hb dX1_change_146 (lv_at hl 0 rfl) ?_
                  refine va_calli (va_runV (As := [.int r70]) (rest := []) ⟨hx, hb, hml, hown, hts⟩ (c_X1_answer l D a hO S70 r70) (cwV 1 hts gX1_change_X1_answer rfl rfl rfl hdX1_answer ⟨Nat.le_of_ble_eq_true rfl, Nat.le_of_ble_eq_true rfl⟩) (mPreV hK hP) rfl rfl hl.1 rfl (lv_room (Nat.le_of_ble_eq_true rfl)) dX1_change_148 ⟨Nat.zero_le _, Nat.zero_le _⟩) hS (fun q _ h => h) (fun q h => h) (fun r72 S72 t H1 locs ht hvm hw72 hB hz1 hk1 hS => ?_)
                  obtain ⟨hP, -⟩ := hB
                  rw [ht] at hP
                  exact W.iret (v := r72) hx hb hr (fun t ht hW => ⟨⟨r72, S72, rfl, (by simp only [mF_change, hw1, if_neg c2, if_neg c6, if_neg c8, if_neg c11, hw12, if_pos c15, if_pos c60, hw67, hw68, hw70, hw72]), by rw [ht]; exact hP, va_K.moved hW.alike hK⟩, hS.F ht⟩) hS.2.2 dX1_change_151
            · exact absurd c14 c11
          · refine lv_iload_n hx hb dX1_change_33 rfl (lv_at hl 4 rfl) ?_
            refine lv_iconst (v := 2) hx hb dX1_change_34 (by decide) ?_
            refine lv_icmp_ge (tgt := 49) hx hb dX1_change_35 (by decide) (fun c74 => ?_) (fun c74 => ?_)
            · refine lv_aload_n hx hb dX1_change_49 rfl (lv_at hl 1 rfl) ?_
              refine lv_iconst (v := 0) hx hb dX1_change_50 (by decide) ?_
              refine m_puti hx hb hts hu hown hO hK hP hS 11 (by decide) hf23 rfl rfl (by decide +kernel) (msFa S) (fun _ => rfl) (fun _ => rfl) dX1_change_51 (fun H locs hP hS => ?_)
              have hI := mI_fault 0 hI
              refine lv_aload_n hx hb dX1_change_54 rfl (lv_at hl 1 rfl) ?_
              refine lv_iload_n hx hb dX1_change_55 rfl (lv_at hl 2 rfl) ?_
              refine lv_iload_n hx hb dX1_change_56 rfl (lv_at hl 3 rfl) ?_
              refine va_calli (va_runV (As := [.int p1, .int p2]) (rest := []) ⟨hx, hb, hml, hown, hts⟩ (c_X1_cell l D a hO (msFa S 0) p1 p2 hI hn5) (cwV 2 hts gX1_change_X1_cell rfl rfl rfl hdX1_cell ⟨Nat.le_of_ble_eq_true rfl, Nat.le_of_ble_eq_true rfl⟩) (mPreV hK hP) rfl rfl hl.1 rfl (lv_room (Nat.le_of_ble_eq_true rfl)) dX1_change_57 ⟨Nat.zero_le _, Nat.zero_le _⟩) hS (fun q _ h => h) (fun q h => h) (fun r75 S75 t H1 locs ht hvm hw75 hB hz1 hk1 hS => ?_)
              obtain ⟨hP, -⟩ := hB
              rw [ht] at hP
              have hI := mI_cell hI hw75
              refine lv_istore (lv' := [(6, .int r75), (5, .int 1), (0, .ref (ma a)), (1, .int p1), (2, .int p2), (3, .int p3), (4, .int p4)]) hx hb dX1_change_60 hl (by decide) rfl (fun ls hl => ?_)
              refine lv_iload_n hx hb dX1_change_62 rfl (lv_at hl 3 rfl) ?_
              refine lv_iconst (v := 2) hx hb dX1_change_63 (by decide) ?_
              refine lv_icmp_ne (tgt := 72) hx hb dX1_change_64 (by decide) (fun c77 => ?_) (fun c77 => ?_)
              · exact absurd c11 c77
              · refine lv_bipush (v := 8) hx hb dX1_change_67 (by decide) ?_
                refine lv_goto (tgt := 73) hx hb dX1_change_69 (by decide) ?_
                refine lv_istore (lv' := [(7, .int 8), (6, .int r75), (5, .int 1), (0, .ref (ma a)), (1, .int p1), (2, .int p2), (3, .int p3), (4, .int p4)]) hx hb dX1_change_73 hl (by decide) rfl (fun ls hl => ?_)
                refine lv_iload_n hx hb dX1_change_75 rfl (lv_at hl 6 rfl) ?_
                refine lv_if_ne (tgt := 84) hx hb dX1_change_76 (by decide) (fun c78 => ?_) (fun c78 => ?_)
                · refine lv_iload_n hx hb dX1_change_84 rfl (lv_at hl 6 rfl) ?_
                  refine lv_iconst (v := 1) hx hb dX1_change_85 (by decide) ?_
                  refine lv_icmp_ne (tgt := 95) hx hb dX1_change_86 (by decide) (fun c79 => ?_) (fun c79 => ?_)
                  · refine lv_iload_n hx hb dX1_change_95 rfl (lv_at hl 6 rfl) ?_
                    refine lv_iconst (v := 2) hx hb dX1_change_96 (by decide) ?_
                    refine lv_icmp_ne (tgt := 105) hx hb dX1_change_97 (by decide) (fun c80 => ?_) (fun c80 => ?_)
                    · refine lv_iload hx hb dX1_change_105 (lv_at hl 0 rfl) ?_
                      refine lv_ineg hx hb dX1_change_107 ?_
                      refine lv_istore (lv' := [(8, .int (-8)), (7, .int 8), (6, .int r75), (5, .int 1), (0, .ref (ma a)), (1, .int p1), (2, .int p2), (3, .int p3), (4, .int p4)]) hx hb dX1_change_108 hl (by decide) rfl (fun ls hl => ?_)
                      refine lv_aload_n hx hb dX1_change_110 rfl (lv_at hl 4 rfl) ?_
                      refine lv_iload_n hx hb dX1_change_111 rfl (lv_at hl 5 rfl) ?_
                      refine lv_iload_n hx hb dX1_change_112 rfl (lv_at hl 6 rfl) ?_
                      refine lv_iload_n hx hb dX1_change_113 rfl (lv_at hl 5 rfl) ?_
                      refine lv_iconst (v := 3) hx hb dX1_change_114 (by decide) ?_
                      refine lv_icmp_ne (tgt := 129) hx hb dX1_change_115 (by decide) (fun c81 => ?_) (fun c81 => ?_)
                      · refine lv_iload hx hb dX1_change_129 (lv_at hl 2 rfl) ?_
                        refine lv_iload hx hb dX1_change_131 (lv_at hl 0 rfl) ?_
                        refine lv_iadd hx hb dX1_change_133 ?_
                        refine va_callv (va_runV (As := [.int p1, .int p2, .int (r75 + (-8))]) (rest := []) ⟨hx, hb, hml, hown, hts⟩ (c_X1_put l D a hO S75 p1 p2 (r75 + (-8)) hI hn5) (cwV 3 hts gX1_change_X1_put rfl rfl rfl hdX1_put ⟨Nat.le_of_ble_eq_true rfl, Nat.le_of_ble_eq_true rfl⟩) (mPreV hK hP) rfl rfl hl.1 rfl (lv_room (Nat.le_of_ble_eq_true rfl)) dX1_change_134 ⟨Nat.zero_le _, Nat.zero_le _⟩) hS (fun q _ h => h) (fun q h => h) (fun S82 t H1 locs ht hvm hw82 hB hz1 hk1 hS => ?_)
                        obtain ⟨hP, -⟩ := hB
                        rw [ht] at hP
                        have hI := mI_put hI hw82
                        refine lv_aload_n hx hb dX1_change_137 rfl (lv_at hl 4 rfl) ?_
                        refine lv_iload_n hx hb dX1_change_138 rfl (lv_at hl 5 rfl) ?_
                        refine lv_iload_n hx hb dX1_change_139 rfl (lv_at hl 6 rfl) ?_
                        refine va_calli (va_runV (As := [.int p1, .int p2]) (rest := []) ⟨hx, hb, hml, hown, hts⟩ (c_X1_cell l D a hO S82 p1 p2 hI hn5) (cwV 2 hts gX1_change_X1_cell rfl rfl rfl hdX1_cell ⟨Nat.le_of_ble_eq_true rfl, Nat.le_of_ble_eq_true rfl⟩) (mPreV hK hP) rfl rfl hl.1 rfl (lv_room (Nat.le_of_ble_eq_true rfl)) dX1_change_140 ⟨Nat.zero_le _, Nat.zero_le _⟩) hS (fun q _ h => h) (fun q h => h) (fun r84 S84 t H1 locs ht hvm hw84 hB hz1 hk1 hS => ?_)
                        obtain ⟨hP, -⟩ := hB
                        rw [ht] at hP
                        have hI := mI_cell hI hw84
                        refine lv_istore (lv' := [(9, .int r84), (8, .int (-8)), (7, .int 8), (6, .int r75), (5, .int 1), (0, .ref (ma a)), (1, .int p1), (2, .int p2), (3, .int p3), (4, .int p4)]) hx hb dX1_change_143 hl (by decide) rfl (fun ls hl => ?_)
                        refine lv_aload_n hx hb dX1_change_145 rfl (lv_at hl 5 rfl) ?_
                        refine lv_iload hx hb dX1_change_146 (lv_at hl 0 rfl) ?_
                        refine va_calli (va_runV (As := [.int r84]) (rest := []) ⟨hx, hb, hml, hown, hts⟩ (c_X1_answer l D a hO S84 r84) (cwV 1 hts gX1_change_X1_answer rfl rfl rfl hdX1_answer ⟨Nat.le_of_ble_eq_true rfl, Nat.le_of_ble_eq_true rfl⟩) (mPreV hK hP) rfl rfl hl.1 rfl (lv_room (Nat.le_of_ble_eq_true rfl)) dX1_change_148 ⟨Nat.zero_le _, Nat.zero_le _⟩) hS (fun q _ h => h) (fun q h => h) (fun r86 S86 t H1 locs ht hvm hw86 hB hz1 hk1 hS => ?_)
                        obtain ⟨hP, -⟩ := hB
                        rw [ht] at hP
                        exact W.iret (v := r86) hx hb hr (fun t ht hW => ⟨⟨r86, S86, rfl, (by simp only [mF_change, hw1, if_neg c2, if_neg c6, if_neg c8, if_pos c11, if_pos c74, hw75, if_neg c78, if_neg c79, if_neg c80, if_neg c81, hw82, hw84, hw86]), by rw [ht]; exact hP, va_K.moved hW.alike hK⟩, hS.F ht⟩) hS.2.2 dX1_change_151
                      · refine lv_iload hx hb dX1_change_118 (lv_at hl 2 rfl) ?_
                        refine lv_iload_n hx hb dX1_change_120 rfl (lv_at hl 7 rfl) ?_
                        refine lv_iload hx hb dX1_change_121 (lv_at hl 8 rfl) ?_
                        refine va_calli (va_runS (As := [.int r75, .int p3, .int p4]) (rest := [.int p2, .int p1, .ref (ma a)]) ⟨hx, hb, hml, hown, hts⟩ (c_X1_gate l r75 p3 p4) (va_cwS 3 hts gX1_change_X1_gate rfl rfl rfl hdX1_gate ⟨Nat.le_of_ble_eq_true rfl, Nat.le_of_ble_eq_true rfl⟩) pPreS rfl rfl hl.1 rfl (lv_room (Nat.le_of_ble_eq_true rfl)) dX1_change_123 ⟨Nat.zero_le _, Nat.zero_le _⟩) hS (fun q _ h => h.elim) (fun q h => h.elim) (fun r88 u88 t H1 locs ht hvm hw88 hB hz1 hk1 hS => ?_)
                        have hP := P_kept hP hk1
                        refine lv_goto (tgt := 134) hx hb dX1_change_126 (by decide) ?_
                        refine va_callv (va_runV (As := [.int p1, .int p2, .int r88]) (rest := []) ⟨hx, hb, hml, hown, hts⟩ (c_X1_put l D a hO S75 p1 p2 r88 hI hn5) (cwV 3 hts gX1_change_X1_put rfl rfl rfl hdX1_put ⟨Nat.le_of_ble_eq_true rfl, Nat.le_of_ble_eq_true rfl⟩) (mPreV hK hP) rfl rfl hl.1 rfl (lv_room (Nat.le_of_ble_eq_true rfl)) dX1_change_134 ⟨Nat.zero_le _, Nat.zero_le _⟩) hS (fun q _ h => h) (fun q h => h) (fun S89 t H1 locs ht hvm hw89 hB hz1 hk1 hS => ?_)
                        obtain ⟨hP, -⟩ := hB
                        rw [ht] at hP
                        have hI := mI_put hI hw89
                        refine lv_aload_n hx hb dX1_change_137 rfl (lv_at hl 4 rfl) ?_
                        refine lv_iload_n hx hb dX1_change_138 rfl (lv_at hl 5 rfl) ?_
                        refine lv_iload_n hx hb dX1_change_139 rfl (lv_at hl 6 rfl) ?_
                        refine va_calli (va_runV (As := [.int p1, .int p2]) (rest := []) ⟨hx, hb, hml, hown, hts⟩ (c_X1_cell l D a hO S89 p1 p2 hI hn5) (cwV 2 hts gX1_change_X1_cell rfl rfl rfl hdX1_cell ⟨Nat.le_of_ble_eq_true rfl, Nat.le_of_ble_eq_true rfl⟩) (mPreV hK hP) rfl rfl hl.1 rfl (lv_room (Nat.le_of_ble_eq_true rfl)) dX1_change_140 ⟨Nat.zero_le _, Nat.zero_le _⟩) hS (fun q _ h => h) (fun q h => h) (fun r91 S91 t H1 locs ht hvm hw91 hB hz1 hk1 hS => ?_)
                        obtain ⟨hP, -⟩ := hB
                        rw [ht] at hP
                        have hI := mI_cell hI hw91
                        refine lv_istore (lv' := [(9, .int r91), (8, .int (-8)), (7, .int 8), (6, .int r75), (5, .int 1), (0, .ref (ma a)), (1, .int p1), (2, .int p2), (3, .int p3), (4, .int p4)]) hx hb dX1_change_143 hl (by decide) rfl (fun ls hl => ?_)
                        refine lv_aload_n hx hb dX1_change_145 rfl (lv_at hl 5 rfl) ?_
                        refine lv_iload hx hb dX1_change_146 (lv_at hl 0 rfl) ?_
                        refine va_calli (va_runV (As := [.int r91]) (rest := []) ⟨hx, hb, hml, hown, hts⟩ (c_X1_answer l D a hO S91 r91) (cwV 1 hts gX1_change_X1_answer rfl rfl rfl hdX1_answer ⟨Nat.le_of_ble_eq_true rfl, Nat.le_of_ble_eq_true rfl⟩) (mPreV hK hP) rfl rfl hl.1 rfl (lv_room (Nat.le_of_ble_eq_true rfl)) dX1_change_148 ⟨Nat.zero_le _, Nat.zero_le _⟩) hS (fun q _ h => h) (fun q h => h) (fun r93 S93 t H1 locs ht hvm hw93 hB hz1 hk1 hS => ?_)
                        obtain ⟨hP, -⟩ := hB
                        rw [ht] at hP
                        exact W.iret (v := r93) hx hb hr (fun t ht hW => ⟨⟨r93, S93, rfl, (by simp only [mF_change, hw1, if_neg c2, if_neg c6, if_neg c8, if_pos c11, if_pos c74, hw75, if_neg c78, if_neg c79, if_neg c80, if_pos c81, hw88, hw89, hw91, hw93]), by rw [ht]; exact hP, va_K.moved hW.alike hK⟩, hS.F ht⟩) hS.2.2 dX1_change_151
                    · refine lv_iload hx hb dX1_change_100 (lv_at hl 0 rfl) ?_
                      refine lv_goto (tgt := 108) hx hb dX1_change_102 (by decide) ?_
                      refine lv_istore (lv' := [(8, .int 8), (7, .int 8), (6, .int r75), (5, .int 1), (0, .ref (ma a)), (1, .int p1), (2, .int p2), (3, .int p3), (4, .int p4)]) hx hb dX1_change_108 hl (by decide) rfl (fun ls hl => ?_)
                      refine lv_aload_n hx hb dX1_change_110 rfl (lv_at hl 4 rfl) ?_
                      refine lv_iload_n hx hb dX1_change_111 rfl (lv_at hl 5 rfl) ?_
                      refine lv_iload_n hx hb dX1_change_112 rfl (lv_at hl 6 rfl) ?_
                      refine lv_iload_n hx hb dX1_change_113 rfl (lv_at hl 5 rfl) ?_
                      refine lv_iconst (v := 3) hx hb dX1_change_114 (by decide) ?_
                      refine lv_icmp_ne (tgt := 129) hx hb dX1_change_115 (by decide) (fun c95 => ?_) (fun c95 => ?_)
                      · refine lv_iload hx hb dX1_change_129 (lv_at hl 2 rfl) ?_
                        refine lv_iload hx hb dX1_change_131 (lv_at hl 0 rfl) ?_
                        refine lv_iadd hx hb dX1_change_133 ?_
                        refine va_callv (va_runV (As := [.int p1, .int p2, .int (r75 + 8)]) (rest := []) ⟨hx, hb, hml, hown, hts⟩ (c_X1_put l D a hO S75 p1 p2 (r75 + 8) hI hn5) (cwV 3 hts gX1_change_X1_put rfl rfl rfl hdX1_put ⟨Nat.le_of_ble_eq_true rfl, Nat.le_of_ble_eq_true rfl⟩) (mPreV hK hP) rfl rfl hl.1 rfl (lv_room (Nat.le_of_ble_eq_true rfl)) dX1_change_134 ⟨Nat.zero_le _, Nat.zero_le _⟩) hS (fun q _ h => h) (fun q h => h) (fun S96 t H1 locs ht hvm hw96 hB hz1 hk1 hS => ?_)
                        obtain ⟨hP, -⟩ := hB
                        rw [ht] at hP
                        have hI := mI_put hI hw96
                        refine lv_aload_n hx hb dX1_change_137 rfl (lv_at hl 4 rfl) ?_
                        refine lv_iload_n hx hb dX1_change_138 rfl (lv_at hl 5 rfl) ?_
                        refine lv_iload_n hx hb dX1_change_139 rfl (lv_at hl 6 rfl) ?_
                        refine va_calli (va_runV (As := [.int p1, .int p2]) (rest := []) ⟨hx, hb, hml, hown, hts⟩ (c_X1_cell l D a hO S96 p1 p2 hI hn5) (cwV 2 hts gX1_change_X1_cell rfl rfl rfl hdX1_cell ⟨Nat.le_of_ble_eq_true rfl, Nat.le_of_ble_eq_true rfl⟩) (mPreV hK hP) rfl rfl hl.1 rfl (lv_room (Nat.le_of_ble_eq_true rfl)) dX1_change_140 ⟨Nat.zero_le _, Nat.zero_le _⟩) hS (fun q _ h => h) (fun q h => h) (fun r98 S98 t H1 locs ht hvm hw98 hB hz1 hk1 hS => ?_)
                        obtain ⟨hP, -⟩ := hB
                        rw [ht] at hP
                        have hI := mI_cell hI hw98
                        refine lv_istore (lv' := [(9, .int r98), (8, .int 8), (7, .int 8), (6, .int r75), (5, .int 1), (0, .ref (ma a)), (1, .int p1), (2, .int p2), (3, .int p3), (4, .int p4)]) hx hb dX1_change_143 hl (by decide) rfl (fun ls hl => ?_)
                        refine lv_aload_n hx hb dX1_change_145 rfl (lv_at hl 5 rfl) ?_
                        refine lv_iload hx hb dX1_change_146 (lv_at hl 0 rfl) ?_
                        refine va_calli (va_runV (As := [.int r98]) (rest := []) ⟨hx, hb, hml, hown, hts⟩ (c_X1_answer l D a hO S98 r98) (cwV 1 hts gX1_change_X1_answer rfl rfl rfl hdX1_answer ⟨Nat.le_of_ble_eq_true rfl, Nat.le_of_ble_eq_true rfl⟩) (mPreV hK hP) rfl rfl hl.1 rfl (lv_room (Nat.le_of_ble_eq_true rfl)) dX1_change_148 ⟨Nat.zero_le _, Nat.zero_le _⟩) hS (fun q _ h => h) (fun q h => h) (fun r100 S100 t H1 locs ht hvm hw100 hB hz1 hk1 hS => ?_)
                        obtain ⟨hP, -⟩ := hB
                        rw [ht] at hP
                        exact W.iret (v := r100) hx hb hr (fun t ht hW => ⟨⟨r100, S100, rfl, (by simp only [mF_change, hw1, if_neg c2, if_neg c6, if_neg c8, if_pos c11, if_pos c74, hw75, if_neg c78, if_neg c79, if_pos c80, if_neg c95, hw96, hw98, hw100]), by rw [ht]; exact hP, va_K.moved hW.alike hK⟩, hS.F ht⟩) hS.2.2 dX1_change_151
                      · refine lv_iload hx hb dX1_change_118 (lv_at hl 2 rfl) ?_
                        refine lv_iload_n hx hb dX1_change_120 rfl (lv_at hl 7 rfl) ?_
                        refine lv_iload hx hb dX1_change_121 (lv_at hl 8 rfl) ?_
                        refine va_calli (va_runS (As := [.int r75, .int p3, .int p4]) (rest := [.int p2, .int p1, .ref (ma a)]) ⟨hx, hb, hml, hown, hts⟩ (c_X1_gate l r75 p3 p4) (va_cwS 3 hts gX1_change_X1_gate rfl rfl rfl hdX1_gate ⟨Nat.le_of_ble_eq_true rfl, Nat.le_of_ble_eq_true rfl⟩) pPreS rfl rfl hl.1 rfl (lv_room (Nat.le_of_ble_eq_true rfl)) dX1_change_123 ⟨Nat.zero_le _, Nat.zero_le _⟩) hS (fun q _ h => h.elim) (fun q h => h.elim) (fun r102 u102 t H1 locs ht hvm hw102 hB hz1 hk1 hS => ?_)
                        have hP := P_kept hP hk1
                        refine lv_goto (tgt := 134) hx hb dX1_change_126 (by decide) ?_
                        refine va_callv (va_runV (As := [.int p1, .int p2, .int r102]) (rest := []) ⟨hx, hb, hml, hown, hts⟩ (c_X1_put l D a hO S75 p1 p2 r102 hI hn5) (cwV 3 hts gX1_change_X1_put rfl rfl rfl hdX1_put ⟨Nat.le_of_ble_eq_true rfl, Nat.le_of_ble_eq_true rfl⟩) (mPreV hK hP) rfl rfl hl.1 rfl (lv_room (Nat.le_of_ble_eq_true rfl)) dX1_change_134 ⟨Nat.zero_le _, Nat.zero_le _⟩) hS (fun q _ h => h) (fun q h => h) (fun S103 t H1 locs ht hvm hw103 hB hz1 hk1 hS => ?_)
                        obtain ⟨hP, -⟩ := hB
                        rw [ht] at hP
                        have hI := mI_put hI hw103
                        refine lv_aload_n hx hb dX1_change_137 rfl (lv_at hl 4 rfl) ?_
                        refine lv_iload_n hx hb dX1_change_138 rfl (lv_at hl 5 rfl) ?_
                        refine lv_iload_n hx hb dX1_change_139 rfl (lv_at hl 6 rfl) ?_
                        refine va_calli (va_runV (As := [.int p1, .int p2]) (rest := []) ⟨hx, hb, hml, hown, hts⟩ (c_X1_cell l D a hO S103 p1 p2 hI hn5) (cwV 2 hts gX1_change_X1_cell rfl rfl rfl hdX1_cell ⟨Nat.le_of_ble_eq_true rfl, Nat.le_of_ble_eq_true rfl⟩) (mPreV hK hP) rfl rfl hl.1 rfl (lv_room (Nat.le_of_ble_eq_true rfl)) dX1_change_140 ⟨Nat.zero_le _, Nat.zero_le _⟩) hS (fun q _ h => h) (fun q h => h) (fun r105 S105 t H1 locs ht hvm hw105 hB hz1 hk1 hS => ?_)
                        obtain ⟨hP, -⟩ := hB
                        rw [ht] at hP
                        have hI := mI_cell hI hw105
                        refine lv_istore (lv' := [(9, .int r105), (8, .int 8), (7, .int 8), (6, .int r75), (5, .int 1), (0, .ref (ma a)), (1, .int p1), (2, .int p2), (3, .int p3), (4, .int p4)]) hx hb dX1_change_143 hl (by decide) rfl (fun ls hl => ?_)
                        refine lv_aload_n hx hb dX1_change_145 rfl (lv_at hl 5 rfl) ?_
                        refine lv_iload hx hb dX1_change_146 (lv_at hl 0 rfl) ?_
                        refine va_calli (va_runV (As := [.int r105]) (rest := []) ⟨hx, hb, hml, hown, hts⟩ (c_X1_answer l D a hO S105 r105) (cwV 1 hts gX1_change_X1_answer rfl rfl rfl hdX1_answer ⟨Nat.le_of_ble_eq_true rfl, Nat.le_of_ble_eq_true rfl⟩) (mPreV hK hP) rfl rfl hl.1 rfl (lv_room (Nat.le_of_ble_eq_true rfl)) dX1_change_148 ⟨Nat.zero_le _, Nat.zero_le _⟩) hS (fun q _ h => h) (fun q h => h) (fun r107 S107 t H1 locs ht hvm hw107 hB hz1 hk1 hS => ?_)
                        obtain ⟨hP, -⟩ := hB
                        rw [ht] at hP
                        exact W.iret (v := r107) hx hb hr (fun t ht hW => ⟨⟨r107, S107, rfl, (by simp only [mF_change, hw1, if_neg c2, if_neg c6, if_neg c8, if_pos c11, if_pos c74, hw75, if_neg c78, if_neg c79, if_pos c80, if_pos c95, hw102, hw103, hw105, hw107]), by rw [ht]; exact hP, va_K.moved hW.alike hK⟩, hS.F ht⟩) hS.2.2 dX1_change_151
                  · refine lv_iload hx hb dX1_change_89 (lv_at hl 7 rfl) ?_
                    refine lv_ineg hx hb dX1_change_91 ?_
                    refine lv_goto (tgt := 108) hx hb dX1_change_92 (by decide) ?_
                    refine lv_istore (lv' := [(8, .int (-p4)), (7, .int 8), (6, .int r75), (5, .int 1), (0, .ref (ma a)), (1, .int p1), (2, .int p2), (3, .int p3), (4, .int p4)]) hx hb dX1_change_108 hl (by decide) rfl (fun ls hl => ?_)
                    refine lv_aload_n hx hb dX1_change_110 rfl (lv_at hl 4 rfl) ?_
                    refine lv_iload_n hx hb dX1_change_111 rfl (lv_at hl 5 rfl) ?_
                    refine lv_iload_n hx hb dX1_change_112 rfl (lv_at hl 6 rfl) ?_
                    refine lv_iload_n hx hb dX1_change_113 rfl (lv_at hl 5 rfl) ?_
                    refine lv_iconst (v := 3) hx hb dX1_change_114 (by decide) ?_
                    refine lv_icmp_ne (tgt := 129) hx hb dX1_change_115 (by decide) (fun c109 => ?_) (fun c109 => ?_)
                    · refine lv_iload hx hb dX1_change_129 (lv_at hl 2 rfl) ?_
                      refine lv_iload hx hb dX1_change_131 (lv_at hl 0 rfl) ?_
                      refine lv_iadd hx hb dX1_change_133 ?_
                      refine va_callv (va_runV (As := [.int p1, .int p2, .int (r75 + (-p4))]) (rest := []) ⟨hx, hb, hml, hown, hts⟩ (c_X1_put l D a hO S75 p1 p2 (r75 + (-p4)) hI hn5) (cwV 3 hts gX1_change_X1_put rfl rfl rfl hdX1_put ⟨Nat.le_of_ble_eq_true rfl, Nat.le_of_ble_eq_true rfl⟩) (mPreV hK hP) rfl rfl hl.1 rfl (lv_room (Nat.le_of_ble_eq_true rfl)) dX1_change_134 ⟨Nat.zero_le _, Nat.zero_le _⟩) hS (fun q _ h => h) (fun q h => h) (fun S110 t H1 locs ht hvm hw110 hB hz1 hk1 hS => ?_)
                      obtain ⟨hP, -⟩ := hB
                      rw [ht] at hP
                      have hI := mI_put hI hw110
                      refine lv_aload_n hx hb dX1_change_137 rfl (lv_at hl 4 rfl) ?_
                      refine lv_iload_n hx hb dX1_change_138 rfl (lv_at hl 5 rfl) ?_
                      refine lv_iload_n hx hb dX1_change_139 rfl (lv_at hl 6 rfl) ?_
                      refine va_calli (va_runV (As := [.int p1, .int p2]) (rest := []) ⟨hx, hb, hml, hown, hts⟩ (c_X1_cell l D a hO S110 p1 p2 hI hn5) (cwV 2 hts gX1_change_X1_cell rfl rfl rfl hdX1_cell ⟨Nat.le_of_ble_eq_true rfl, Nat.le_of_ble_eq_true rfl⟩) (mPreV hK hP) rfl rfl hl.1 rfl (lv_room (Nat.le_of_ble_eq_true rfl)) dX1_change_140 ⟨Nat.zero_le _, Nat.zero_le _⟩) hS (fun q _ h => h) (fun q h => h) (fun r112 S112 t H1 locs ht hvm hw112 hB hz1 hk1 hS => ?_)
                      obtain ⟨hP, -⟩ := hB
                      rw [ht] at hP
                      have hI := mI_cell hI hw112
                      refine lv_istore (lv' := [(9, .int r112), (8, .int (-p4)), (7, .int 8), (6, .int r75), (5, .int 1), (0, .ref (ma a)), (1, .int p1), (2, .int p2), (3, .int p3), (4, .int p4)]) hx hb dX1_change_143 hl (by decide) rfl (fun ls hl => ?_)
                      refine lv_aload_n hx hb dX1_change_145 rfl (lv_at hl 5 rfl) ?_
                      refine lv_iload hx hb dX1_change_146 (lv_at hl 0 rfl) ?_
                      refine va_calli (va_runV (As := [.int r112]) (rest := []) ⟨hx, hb, hml, hown, hts⟩ (c_X1_answer l D a hO S112 r112) (cwV 1 hts gX1_change_X1_answer rfl rfl rfl hdX1_answer ⟨Nat.le_of_ble_eq_true rfl, Nat.le_of_ble_eq_true rfl⟩) (mPreV hK hP) rfl rfl hl.1 rfl (lv_room (Nat.le_of_ble_eq_true rfl)) dX1_change_148 ⟨Nat.zero_le _, Nat.zero_le _⟩) hS (fun q _ h => h) (fun q h => h) (fun r114 S114 t H1 locs ht hvm hw114 hB hz1 hk1 hS => ?_)
                      obtain ⟨hP, -⟩ := hB
                      rw [ht] at hP
                      exact W.iret (v := r114) hx hb hr (fun t ht hW => ⟨⟨r114, S114, rfl, (by simp only [mF_change, hw1, if_neg c2, if_neg c6, if_neg c8, if_pos c11, if_pos c74, hw75, if_neg c78, if_pos c79, if_neg c109, hw110, hw112, hw114]), by rw [ht]; exact hP, va_K.moved hW.alike hK⟩, hS.F ht⟩) hS.2.2 dX1_change_151
                    · refine lv_iload hx hb dX1_change_118 (lv_at hl 2 rfl) ?_
                      refine lv_iload_n hx hb dX1_change_120 rfl (lv_at hl 7 rfl) ?_
                      refine lv_iload hx hb dX1_change_121 (lv_at hl 8 rfl) ?_
                      refine va_calli (va_runS (As := [.int r75, .int p3, .int p4]) (rest := [.int p2, .int p1, .ref (ma a)]) ⟨hx, hb, hml, hown, hts⟩ (c_X1_gate l r75 p3 p4) (va_cwS 3 hts gX1_change_X1_gate rfl rfl rfl hdX1_gate ⟨Nat.le_of_ble_eq_true rfl, Nat.le_of_ble_eq_true rfl⟩) pPreS rfl rfl hl.1 rfl (lv_room (Nat.le_of_ble_eq_true rfl)) dX1_change_123 ⟨Nat.zero_le _, Nat.zero_le _⟩) hS (fun q _ h => h.elim) (fun q h => h.elim) (fun r116 u116 t H1 locs ht hvm hw116 hB hz1 hk1 hS => ?_)
                      have hP := P_kept hP hk1
                      refine lv_goto (tgt := 134) hx hb dX1_change_126 (by decide) ?_
                      refine va_callv (va_runV (As := [.int p1, .int p2, .int r116]) (rest := []) ⟨hx, hb, hml, hown, hts⟩ (c_X1_put l D a hO S75 p1 p2 r116 hI hn5) (cwV 3 hts gX1_change_X1_put rfl rfl rfl hdX1_put ⟨Nat.le_of_ble_eq_true rfl, Nat.le_of_ble_eq_true rfl⟩) (mPreV hK hP) rfl rfl hl.1 rfl (lv_room (Nat.le_of_ble_eq_true rfl)) dX1_change_134 ⟨Nat.zero_le _, Nat.zero_le _⟩) hS (fun q _ h => h) (fun q h => h) (fun S117 t H1 locs ht hvm hw117 hB hz1 hk1 hS => ?_)
                      obtain ⟨hP, -⟩ := hB
                      rw [ht] at hP
                      have hI := mI_put hI hw117
                      refine lv_aload_n hx hb dX1_change_137 rfl (lv_at hl 4 rfl) ?_
                      refine lv_iload_n hx hb dX1_change_138 rfl (lv_at hl 5 rfl) ?_
                      refine lv_iload_n hx hb dX1_change_139 rfl (lv_at hl 6 rfl) ?_
                      refine va_calli (va_runV (As := [.int p1, .int p2]) (rest := []) ⟨hx, hb, hml, hown, hts⟩ (c_X1_cell l D a hO S117 p1 p2 hI hn5) (cwV 2 hts gX1_change_X1_cell rfl rfl rfl hdX1_cell ⟨Nat.le_of_ble_eq_true rfl, Nat.le_of_ble_eq_true rfl⟩) (mPreV hK hP) rfl rfl hl.1 rfl (lv_room (Nat.le_of_ble_eq_true rfl)) dX1_change_140 ⟨Nat.zero_le _, Nat.zero_le _⟩) hS (fun q _ h => h) (fun q h => h) (fun r119 S119 t H1 locs ht hvm hw119 hB hz1 hk1 hS => ?_)
                      obtain ⟨hP, -⟩ := hB
                      rw [ht] at hP
                      have hI := mI_cell hI hw119
                      refine lv_istore (lv' := [(9, .int r119), (8, .int (-p4)), (7, .int 8), (6, .int r75), (5, .int 1), (0, .ref (ma a)), (1, .int p1), (2, .int p2), (3, .int p3), (4, .int p4)]) hx hb dX1_change_143 hl (by decide) rfl (fun ls hl => ?_)
                      refine lv_aload_n hx hb dX1_change_145 rfl (lv_at hl 5 rfl) ?_
                      refine lv_iload hx hb dX1_change_146 (lv_at hl 0 rfl) ?_
                      refine va_calli (va_runV (As := [.int r119]) (rest := []) ⟨hx, hb, hml, hown, hts⟩ (c_X1_answer l D a hO S119 r119) (cwV 1 hts gX1_change_X1_answer rfl rfl rfl hdX1_answer ⟨Nat.le_of_ble_eq_true rfl, Nat.le_of_ble_eq_true rfl⟩) (mPreV hK hP) rfl rfl hl.1 rfl (lv_room (Nat.le_of_ble_eq_true rfl)) dX1_change_148 ⟨Nat.zero_le _, Nat.zero_le _⟩) hS (fun q _ h => h) (fun q h => h) (fun r121 S121 t H1 locs ht hvm hw121 hB hz1 hk1 hS => ?_)
                      obtain ⟨hP, -⟩ := hB
                      rw [ht] at hP
                      exact W.iret (v := r121) hx hb hr (fun t ht hW => ⟨⟨r121, S121, rfl, (by simp only [mF_change, hw1, if_neg c2, if_neg c6, if_neg c8, if_pos c11, if_pos c74, hw75, if_neg c78, if_pos c79, if_pos c109, hw116, hw117, hw119, hw121]), by rw [ht]; exact hP, va_K.moved hW.alike hK⟩, hS.F ht⟩) hS.2.2 dX1_change_151
                · refine lv_iload hx hb dX1_change_79 (lv_at hl 7 rfl) ?_
                  refine lv_goto (tgt := 108) hx hb dX1_change_81 (by decide) ?_
                  refine lv_istore (lv' := [(8, .int p4), (7, .int 8), (6, .int r75), (5, .int 1), (0, .ref (ma a)), (1, .int p1), (2, .int p2), (3, .int p3), (4, .int p4)]) hx hb dX1_change_108 hl (by decide) rfl (fun ls hl => ?_)
                  refine lv_aload_n hx hb dX1_change_110 rfl (lv_at hl 4 rfl) ?_
                  refine lv_iload_n hx hb dX1_change_111 rfl (lv_at hl 5 rfl) ?_
                  refine lv_iload_n hx hb dX1_change_112 rfl (lv_at hl 6 rfl) ?_
                  refine lv_iload_n hx hb dX1_change_113 rfl (lv_at hl 5 rfl) ?_
                  refine lv_iconst (v := 3) hx hb dX1_change_114 (by decide) ?_
                  refine lv_icmp_ne (tgt := 129) hx hb dX1_change_115 (by decide) (fun c123 => ?_) (fun c123 => ?_)
                  · refine lv_iload hx hb dX1_change_129 (lv_at hl 2 rfl) ?_
                    refine lv_iload hx hb dX1_change_131 (lv_at hl 0 rfl) ?_
                    refine lv_iadd hx hb dX1_change_133 ?_
                    refine va_callv (va_runV (As := [.int p1, .int p2, .int (r75 + p4)]) (rest := []) ⟨hx, hb, hml, hown, hts⟩ (c_X1_put l D a hO S75 p1 p2 (r75 + p4) hI hn5) (cwV 3 hts gX1_change_X1_put rfl rfl rfl hdX1_put ⟨Nat.le_of_ble_eq_true rfl, Nat.le_of_ble_eq_true rfl⟩) (mPreV hK hP) rfl rfl hl.1 rfl (lv_room (Nat.le_of_ble_eq_true rfl)) dX1_change_134 ⟨Nat.zero_le _, Nat.zero_le _⟩) hS (fun q _ h => h) (fun q h => h) (fun S124 t H1 locs ht hvm hw124 hB hz1 hk1 hS => ?_)
                    obtain ⟨hP, -⟩ := hB
                    rw [ht] at hP
                    have hI := mI_put hI hw124
                    refine lv_aload_n hx hb dX1_change_137 rfl (lv_at hl 4 rfl) ?_
                    refine lv_iload_n hx hb dX1_change_138 rfl (lv_at hl 5 rfl) ?_
                    refine lv_iload_n hx hb dX1_change_139 rfl (lv_at hl 6 rfl) ?_
                    refine va_calli (va_runV (As := [.int p1, .int p2]) (rest := []) ⟨hx, hb, hml, hown, hts⟩ (c_X1_cell l D a hO S124 p1 p2 hI hn5) (cwV 2 hts gX1_change_X1_cell rfl rfl rfl hdX1_cell ⟨Nat.le_of_ble_eq_true rfl, Nat.le_of_ble_eq_true rfl⟩) (mPreV hK hP) rfl rfl hl.1 rfl (lv_room (Nat.le_of_ble_eq_true rfl)) dX1_change_140 ⟨Nat.zero_le _, Nat.zero_le _⟩) hS (fun q _ h => h) (fun q h => h) (fun r126 S126 t H1 locs ht hvm hw126 hB hz1 hk1 hS => ?_)
                    obtain ⟨hP, -⟩ := hB
                    rw [ht] at hP
                    have hI := mI_cell hI hw126
                    refine lv_istore (lv' := [(9, .int r126), (8, .int p4), (7, .int 8), (6, .int r75), (5, .int 1), (0, .ref (ma a)), (1, .int p1), (2, .int p2), (3, .int p3), (4, .int p4)]) hx hb dX1_change_143 hl (by decide) rfl (fun ls hl => ?_)
                    refine lv_aload_n hx hb dX1_change_145 rfl (lv_at hl 5 rfl) ?_
                    refine lv_iload hx hb dX1_change_146 (lv_at hl 0 rfl) ?_
                    refine va_calli (va_runV (As := [.int r126]) (rest := []) ⟨hx, hb, hml, hown, hts⟩ (c_X1_answer l D a hO S126 r126) (cwV 1 hts gX1_change_X1_answer rfl rfl rfl hdX1_answer ⟨Nat.le_of_ble_eq_true rfl, Nat.le_of_ble_eq_true rfl⟩) (mPreV hK hP) rfl rfl hl.1 rfl (lv_room (Nat.le_of_ble_eq_true rfl)) dX1_change_148 ⟨Nat.zero_le _, Nat.zero_le _⟩) hS (fun q _ h => h) (fun q h => h) (fun r128 S128 t H1 locs ht hvm hw128 hB hz1 hk1 hS => ?_)
                    obtain ⟨hP, -⟩ := hB
                    rw [ht] at hP
                    exact W.iret (v := r128) hx hb hr (fun t ht hW => ⟨⟨r128, S128, rfl, (by simp only [mF_change, hw1, if_neg c2, if_neg c6, if_neg c8, if_pos c11, if_pos c74, hw75, if_pos c78, if_neg c123, hw124, hw126, hw128]), by rw [ht]; exact hP, va_K.moved hW.alike hK⟩, hS.F ht⟩) hS.2.2 dX1_change_151
                  · refine lv_iload hx hb dX1_change_118 (lv_at hl 2 rfl) ?_
                    refine lv_iload_n hx hb dX1_change_120 rfl (lv_at hl 7 rfl) ?_
                    refine lv_iload hx hb dX1_change_121 (lv_at hl 8 rfl) ?_
                    refine va_calli (va_runS (As := [.int r75, .int p3, .int p4]) (rest := [.int p2, .int p1, .ref (ma a)]) ⟨hx, hb, hml, hown, hts⟩ (c_X1_gate l r75 p3 p4) (va_cwS 3 hts gX1_change_X1_gate rfl rfl rfl hdX1_gate ⟨Nat.le_of_ble_eq_true rfl, Nat.le_of_ble_eq_true rfl⟩) pPreS rfl rfl hl.1 rfl (lv_room (Nat.le_of_ble_eq_true rfl)) dX1_change_123 ⟨Nat.zero_le _, Nat.zero_le _⟩) hS (fun q _ h => h.elim) (fun q h => h.elim) (fun r130 u130 t H1 locs ht hvm hw130 hB hz1 hk1 hS => ?_)
                    have hP := P_kept hP hk1
                    refine lv_goto (tgt := 134) hx hb dX1_change_126 (by decide) ?_
                    refine va_callv (va_runV (As := [.int p1, .int p2, .int r130]) (rest := []) ⟨hx, hb, hml, hown, hts⟩ (c_X1_put l D a hO S75 p1 p2 r130 hI hn5) (cwV 3 hts gX1_change_X1_put rfl rfl rfl hdX1_put ⟨Nat.le_of_ble_eq_true rfl, Nat.le_of_ble_eq_true rfl⟩) (mPreV hK hP) rfl rfl hl.1 rfl (lv_room (Nat.le_of_ble_eq_true rfl)) dX1_change_134 ⟨Nat.zero_le _, Nat.zero_le _⟩) hS (fun q _ h => h) (fun q h => h) (fun S131 t H1 locs ht hvm hw131 hB hz1 hk1 hS => ?_)
                    obtain ⟨hP, -⟩ := hB
                    rw [ht] at hP
                    have hI := mI_put hI hw131
                    refine lv_aload_n hx hb dX1_change_137 rfl (lv_at hl 4 rfl) ?_
                    refine lv_iload_n hx hb dX1_change_138 rfl (lv_at hl 5 rfl) ?_
                    refine lv_iload_n hx hb dX1_change_139 rfl (lv_at hl 6 rfl) ?_
                    refine va_calli (va_runV (As := [.int p1, .int p2]) (rest := []) ⟨hx, hb, hml, hown, hts⟩ (c_X1_cell l D a hO S131 p1 p2 hI hn5) (cwV 2 hts gX1_change_X1_cell rfl rfl rfl hdX1_cell ⟨Nat.le_of_ble_eq_true rfl, Nat.le_of_ble_eq_true rfl⟩) (mPreV hK hP) rfl rfl hl.1 rfl (lv_room (Nat.le_of_ble_eq_true rfl)) dX1_change_140 ⟨Nat.zero_le _, Nat.zero_le _⟩) hS (fun q _ h => h) (fun q h => h) (fun r133 S133 t H1 locs ht hvm hw133 hB hz1 hk1 hS => ?_)
                    obtain ⟨hP, -⟩ := hB
                    rw [ht] at hP
                    have hI := mI_cell hI hw133
                    refine lv_istore (lv' := [(9, .int r133), (8, .int p4), (7, .int 8), (6, .int r75), (5, .int 1), (0, .ref (ma a)), (1, .int p1), (2, .int p2), (3, .int p3), (4, .int p4)]) hx hb dX1_change_143 hl (by decide) rfl (fun ls hl => ?_)
                    refine lv_aload_n hx hb dX1_change_145 rfl (lv_at hl 5 rfl) ?_
                    refine lv_iload hx hb dX1_change_146 (lv_at hl 0 rfl) ?_
                    refine va_calli (va_runV (As := [.int r133]) (rest := []) ⟨hx, hb, hml, hown, hts⟩ (c_X1_answer l D a hO S133 r133) (cwV 1 hts gX1_change_X1_answer rfl rfl rfl hdX1_answer ⟨Nat.le_of_ble_eq_true rfl, Nat.le_of_ble_eq_true rfl⟩) (mPreV hK hP) rfl rfl hl.1 rfl (lv_room (Nat.le_of_ble_eq_true rfl)) dX1_change_148 ⟨Nat.zero_le _, Nat.zero_le _⟩) hS (fun q _ h => h) (fun q h => h) (fun r135 S135 t H1 locs ht hvm hw135 hB hz1 hk1 hS => ?_)
                    obtain ⟨hP, -⟩ := hB
                    rw [ht] at hP
                    exact W.iret (v := r135) hx hb hr (fun t ht hW => ⟨⟨r135, S135, rfl, (by simp only [mF_change, hw1, if_neg c2, if_neg c6, if_neg c8, if_pos c11, if_pos c74, hw75, if_pos c78, if_pos c123, hw130, hw131, hw133, hw135]), by rw [ht]; exact hP, va_K.moved hW.alike hK⟩, hS.F ht⟩) hS.2.2 dX1_change_151
            · refine lv_iload hx hb dX1_change_38 (lv_at hl 5 rfl) ?_
              refine va_calli (va_runS (As := [.int p4]) (rest := []) ⟨hx, hb, hml, hown, hts⟩ (c_X1_isLoad l p4) (va_cwS 1 hts gX1_change_X1_isLoad rfl rfl rfl hdX1_isLoad ⟨Nat.le_of_ble_eq_true rfl, Nat.le_of_ble_eq_true rfl⟩) pPreS rfl rfl hl.1 rfl (lv_room (Nat.le_of_ble_eq_true rfl)) dX1_change_40 ⟨Nat.zero_le _, Nat.zero_le _⟩) hS (fun q _ h => h.elim) (fun q h => h.elim) (fun r137 u137 t H1 locs ht hvm hw137 hB hz1 hk1 hS => ?_)
              have hP := P_kept hP hk1
              refine lv_if_ne (tgt := 49) hx hb dX1_change_43 (by decide) (fun c138 => ?_) (fun c138 => ?_)
              · refine lv_aload_n hx hb dX1_change_49 rfl (lv_at hl 1 rfl) ?_
                refine lv_iconst (v := 0) hx hb dX1_change_50 (by decide) ?_
                refine m_puti hx hb hts hu hown hO hK hP hS 11 (by decide) hf23 rfl rfl (by decide +kernel) (msFa S) (fun _ => rfl) (fun _ => rfl) dX1_change_51 (fun H locs hP hS => ?_)
                have hI := mI_fault 0 hI
                refine lv_aload_n hx hb dX1_change_54 rfl (lv_at hl 1 rfl) ?_
                refine lv_iload_n hx hb dX1_change_55 rfl (lv_at hl 2 rfl) ?_
                refine lv_iload_n hx hb dX1_change_56 rfl (lv_at hl 3 rfl) ?_
                refine va_calli (va_runV (As := [.int p1, .int p2]) (rest := []) ⟨hx, hb, hml, hown, hts⟩ (c_X1_cell l D a hO (msFa S 0) p1 p2 hI hn5) (cwV 2 hts gX1_change_X1_cell rfl rfl rfl hdX1_cell ⟨Nat.le_of_ble_eq_true rfl, Nat.le_of_ble_eq_true rfl⟩) (mPreV hK hP) rfl rfl hl.1 rfl (lv_room (Nat.le_of_ble_eq_true rfl)) dX1_change_57 ⟨Nat.zero_le _, Nat.zero_le _⟩) hS (fun q _ h => h) (fun q h => h) (fun r140 S140 t H1 locs ht hvm hw140 hB hz1 hk1 hS => ?_)
                obtain ⟨hP, -⟩ := hB
                rw [ht] at hP
                have hI := mI_cell hI hw140
                refine lv_istore (lv' := [(6, .int r140), (5, .int 1), (0, .ref (ma a)), (1, .int p1), (2, .int p2), (3, .int p3), (4, .int p4)]) hx hb dX1_change_60 hl (by decide) rfl (fun ls hl => ?_)
                refine lv_iload_n hx hb dX1_change_62 rfl (lv_at hl 3 rfl) ?_
                refine lv_iconst (v := 2) hx hb dX1_change_63 (by decide) ?_
                refine lv_icmp_ne (tgt := 72) hx hb dX1_change_64 (by decide) (fun c142 => ?_) (fun c142 => ?_)
                · exact absurd c11 c142
                · refine lv_bipush (v := 8) hx hb dX1_change_67 (by decide) ?_
                  refine lv_goto (tgt := 73) hx hb dX1_change_69 (by decide) ?_
                  refine lv_istore (lv' := [(7, .int 8), (6, .int r140), (5, .int 1), (0, .ref (ma a)), (1, .int p1), (2, .int p2), (3, .int p3), (4, .int p4)]) hx hb dX1_change_73 hl (by decide) rfl (fun ls hl => ?_)
                  refine lv_iload_n hx hb dX1_change_75 rfl (lv_at hl 6 rfl) ?_
                  refine lv_if_ne (tgt := 84) hx hb dX1_change_76 (by decide) (fun c143 => ?_) (fun c143 => ?_)
                  · refine lv_iload_n hx hb dX1_change_84 rfl (lv_at hl 6 rfl) ?_
                    refine lv_iconst (v := 1) hx hb dX1_change_85 (by decide) ?_
                    refine lv_icmp_ne (tgt := 95) hx hb dX1_change_86 (by decide) (fun c144 => ?_) (fun c144 => ?_)
                    · refine lv_iload_n hx hb dX1_change_95 rfl (lv_at hl 6 rfl) ?_
                      refine lv_iconst (v := 2) hx hb dX1_change_96 (by decide) ?_
                      refine lv_icmp_ne (tgt := 105) hx hb dX1_change_97 (by decide) (fun c145 => ?_) (fun c145 => ?_)
                      · refine lv_iload hx hb dX1_change_105 (lv_at hl 0 rfl) ?_
                        refine lv_ineg hx hb dX1_change_107 ?_
                        refine lv_istore (lv' := [(8, .int (-8)), (7, .int 8), (6, .int r140), (5, .int 1), (0, .ref (ma a)), (1, .int p1), (2, .int p2), (3, .int p3), (4, .int p4)]) hx hb dX1_change_108 hl (by decide) rfl (fun ls hl => ?_)
                        refine lv_aload_n hx hb dX1_change_110 rfl (lv_at hl 4 rfl) ?_
                        refine lv_iload_n hx hb dX1_change_111 rfl (lv_at hl 5 rfl) ?_
                        refine lv_iload_n hx hb dX1_change_112 rfl (lv_at hl 6 rfl) ?_
                        refine lv_iload_n hx hb dX1_change_113 rfl (lv_at hl 5 rfl) ?_
                        refine lv_iconst (v := 3) hx hb dX1_change_114 (by decide) ?_
                        refine lv_icmp_ne (tgt := 129) hx hb dX1_change_115 (by decide) (fun c146 => ?_) (fun c146 => ?_)
                        · refine lv_iload hx hb dX1_change_129 (lv_at hl 2 rfl) ?_
                          refine lv_iload hx hb dX1_change_131 (lv_at hl 0 rfl) ?_
                          refine lv_iadd hx hb dX1_change_133 ?_
                          refine va_callv (va_runV (As := [.int p1, .int p2, .int (r140 + (-8))]) (rest := []) ⟨hx, hb, hml, hown, hts⟩ (c_X1_put l D a hO S140 p1 p2 (r140 + (-8)) hI hn5) (cwV 3 hts gX1_change_X1_put rfl rfl rfl hdX1_put ⟨Nat.le_of_ble_eq_true rfl, Nat.le_of_ble_eq_true rfl⟩) (mPreV hK hP) rfl rfl hl.1 rfl (lv_room (Nat.le_of_ble_eq_true rfl)) dX1_change_134 ⟨Nat.zero_le _, Nat.zero_le _⟩) hS (fun q _ h => h) (fun q h => h) (fun S147 t H1 locs ht hvm hw147 hB hz1 hk1 hS => ?_)
                          obtain ⟨hP, -⟩ := hB
                          rw [ht] at hP
                          have hI := mI_put hI hw147
                          refine lv_aload_n hx hb dX1_change_137 rfl (lv_at hl 4 rfl) ?_
                          refine lv_iload_n hx hb dX1_change_138 rfl (lv_at hl 5 rfl) ?_
                          refine lv_iload_n hx hb dX1_change_139 rfl (lv_at hl 6 rfl) ?_
                          refine va_calli (va_runV (As := [.int p1, .int p2]) (rest := []) ⟨hx, hb, hml, hown, hts⟩ (c_X1_cell l D a hO S147 p1 p2 hI hn5) (cwV 2 hts gX1_change_X1_cell rfl rfl rfl hdX1_cell ⟨Nat.le_of_ble_eq_true rfl, Nat.le_of_ble_eq_true rfl⟩) (mPreV hK hP) rfl rfl hl.1 rfl (lv_room (Nat.le_of_ble_eq_true rfl)) dX1_change_140 ⟨Nat.zero_le _, Nat.zero_le _⟩) hS (fun q _ h => h) (fun q h => h) (fun r149 S149 t H1 locs ht hvm hw149 hB hz1 hk1 hS => ?_)
                          obtain ⟨hP, -⟩ := hB
                          rw [ht] at hP
                          have hI := mI_cell hI hw149
                          refine lv_istore (lv' := [(9, .int r149), (8, .int (-8)), (7, .int 8), (6, .int r140), (5, .int 1), (0, .ref (ma a)), (1, .int p1), (2, .int p2), (3, .int p3), (4, .int p4)]) hx hb dX1_change_143 hl (by decide) rfl (fun ls hl => ?_)
                          refine lv_aload_n hx hb dX1_change_145 rfl (lv_at hl 5 rfl) ?_
                          refine lv_iload hx hb dX1_change_146 (lv_at hl 0 rfl) ?_
                          refine va_calli (va_runV (As := [.int r149]) (rest := []) ⟨hx, hb, hml, hown, hts⟩ (c_X1_answer l D a hO S149 r149) (cwV 1 hts gX1_change_X1_answer rfl rfl rfl hdX1_answer ⟨Nat.le_of_ble_eq_true rfl, Nat.le_of_ble_eq_true rfl⟩) (mPreV hK hP) rfl rfl hl.1 rfl (lv_room (Nat.le_of_ble_eq_true rfl)) dX1_change_148 ⟨Nat.zero_le _, Nat.zero_le _⟩) hS (fun q _ h => h) (fun q h => h) (fun r151 S151 t H1 locs ht hvm hw151 hB hz1 hk1 hS => ?_)
                          obtain ⟨hP, -⟩ := hB
                          rw [ht] at hP
                          exact W.iret (v := r151) hx hb hr (fun t ht hW => ⟨⟨r151, S151, rfl, (by simp only [mF_change, hw1, if_neg c2, if_neg c6, if_neg c8, if_pos c11, if_neg c74, hw137, if_neg c138, hw140, if_neg c143, if_neg c144, if_neg c145, if_neg c146, hw147, hw149, hw151]), by rw [ht]; exact hP, va_K.moved hW.alike hK⟩, hS.F ht⟩) hS.2.2 dX1_change_151
                        · refine lv_iload hx hb dX1_change_118 (lv_at hl 2 rfl) ?_
                          refine lv_iload_n hx hb dX1_change_120 rfl (lv_at hl 7 rfl) ?_
                          refine lv_iload hx hb dX1_change_121 (lv_at hl 8 rfl) ?_
                          refine va_calli (va_runS (As := [.int r140, .int p3, .int p4]) (rest := [.int p2, .int p1, .ref (ma a)]) ⟨hx, hb, hml, hown, hts⟩ (c_X1_gate l r140 p3 p4) (va_cwS 3 hts gX1_change_X1_gate rfl rfl rfl hdX1_gate ⟨Nat.le_of_ble_eq_true rfl, Nat.le_of_ble_eq_true rfl⟩) pPreS rfl rfl hl.1 rfl (lv_room (Nat.le_of_ble_eq_true rfl)) dX1_change_123 ⟨Nat.zero_le _, Nat.zero_le _⟩) hS (fun q _ h => h.elim) (fun q h => h.elim) (fun r153 u153 t H1 locs ht hvm hw153 hB hz1 hk1 hS => ?_)
                          have hP := P_kept hP hk1
                          refine lv_goto (tgt := 134) hx hb dX1_change_126 (by decide) ?_
                          refine va_callv (va_runV (As := [.int p1, .int p2, .int r153]) (rest := []) ⟨hx, hb, hml, hown, hts⟩ (c_X1_put l D a hO S140 p1 p2 r153 hI hn5) (cwV 3 hts gX1_change_X1_put rfl rfl rfl hdX1_put ⟨Nat.le_of_ble_eq_true rfl, Nat.le_of_ble_eq_true rfl⟩) (mPreV hK hP) rfl rfl hl.1 rfl (lv_room (Nat.le_of_ble_eq_true rfl)) dX1_change_134 ⟨Nat.zero_le _, Nat.zero_le _⟩) hS (fun q _ h => h) (fun q h => h) (fun S154 t H1 locs ht hvm hw154 hB hz1 hk1 hS => ?_)
                          obtain ⟨hP, -⟩ := hB
                          rw [ht] at hP
                          have hI := mI_put hI hw154
                          refine lv_aload_n hx hb dX1_change_137 rfl (lv_at hl 4 rfl) ?_
                          refine lv_iload_n hx hb dX1_change_138 rfl (lv_at hl 5 rfl) ?_
                          refine lv_iload_n hx hb dX1_change_139 rfl (lv_at hl 6 rfl) ?_
                          refine va_calli (va_runV (As := [.int p1, .int p2]) (rest := []) ⟨hx, hb, hml, hown, hts⟩ (c_X1_cell l D a hO S154 p1 p2 hI hn5) (cwV 2 hts gX1_change_X1_cell rfl rfl rfl hdX1_cell ⟨Nat.le_of_ble_eq_true rfl, Nat.le_of_ble_eq_true rfl⟩) (mPreV hK hP) rfl rfl hl.1 rfl (lv_room (Nat.le_of_ble_eq_true rfl)) dX1_change_140 ⟨Nat.zero_le _, Nat.zero_le _⟩) hS (fun q _ h => h) (fun q h => h) (fun r156 S156 t H1 locs ht hvm hw156 hB hz1 hk1 hS => ?_)
                          obtain ⟨hP, -⟩ := hB
                          rw [ht] at hP
                          have hI := mI_cell hI hw156
                          refine lv_istore (lv' := [(9, .int r156), (8, .int (-8)), (7, .int 8), (6, .int r140), (5, .int 1), (0, .ref (ma a)), (1, .int p1), (2, .int p2), (3, .int p3), (4, .int p4)]) hx hb dX1_change_143 hl (by decide) rfl (fun ls hl => ?_)
                          refine lv_aload_n hx hb dX1_change_145 rfl (lv_at hl 5 rfl) ?_
                          refine lv_iload hx hb dX1_change_146 (lv_at hl 0 rfl) ?_
                          refine va_calli (va_runV (As := [.int r156]) (rest := []) ⟨hx, hb, hml, hown, hts⟩ (c_X1_answer l D a hO S156 r156) (cwV 1 hts gX1_change_X1_answer rfl rfl rfl hdX1_answer ⟨Nat.le_of_ble_eq_true rfl, Nat.le_of_ble_eq_true rfl⟩) (mPreV hK hP) rfl rfl hl.1 rfl (lv_room (Nat.le_of_ble_eq_true rfl)) dX1_change_148 ⟨Nat.zero_le _, Nat.zero_le _⟩) hS (fun q _ h => h) (fun q h => h) (fun r158 S158 t H1 locs ht hvm hw158 hB hz1 hk1 hS => ?_)
                          obtain ⟨hP, -⟩ := hB
                          rw [ht] at hP
                          exact W.iret (v := r158) hx hb hr (fun t ht hW => ⟨⟨r158, S158, rfl, (by simp only [mF_change, hw1, if_neg c2, if_neg c6, if_neg c8, if_pos c11, if_neg c74, hw137, if_neg c138, hw140, if_neg c143, if_neg c144, if_neg c145, if_pos c146, hw153, hw154, hw156, hw158]), by rw [ht]; exact hP, va_K.moved hW.alike hK⟩, hS.F ht⟩) hS.2.2 dX1_change_151
                      · refine lv_iload hx hb dX1_change_100 (lv_at hl 0 rfl) ?_
                        refine lv_goto (tgt := 108) hx hb dX1_change_102 (by decide) ?_
                        refine lv_istore (lv' := [(8, .int 8), (7, .int 8), (6, .int r140), (5, .int 1), (0, .ref (ma a)), (1, .int p1), (2, .int p2), (3, .int p3), (4, .int p4)]) hx hb dX1_change_108 hl (by decide) rfl (fun ls hl => ?_)
                        refine lv_aload_n hx hb dX1_change_110 rfl (lv_at hl 4 rfl) ?_
                        refine lv_iload_n hx hb dX1_change_111 rfl (lv_at hl 5 rfl) ?_
                        refine lv_iload_n hx hb dX1_change_112 rfl (lv_at hl 6 rfl) ?_
                        refine lv_iload_n hx hb dX1_change_113 rfl (lv_at hl 5 rfl) ?_
                        refine lv_iconst (v := 3) hx hb dX1_change_114 (by decide) ?_
                        refine lv_icmp_ne (tgt := 129) hx hb dX1_change_115 (by decide) (fun c160 => ?_) (fun c160 => ?_)
                        · refine lv_iload hx hb dX1_change_129 (lv_at hl 2 rfl) ?_
                          refine lv_iload hx hb dX1_change_131 (lv_at hl 0 rfl) ?_
                          refine lv_iadd hx hb dX1_change_133 ?_
                          refine va_callv (va_runV (As := [.int p1, .int p2, .int (r140 + 8)]) (rest := []) ⟨hx, hb, hml, hown, hts⟩ (c_X1_put l D a hO S140 p1 p2 (r140 + 8) hI hn5) (cwV 3 hts gX1_change_X1_put rfl rfl rfl hdX1_put ⟨Nat.le_of_ble_eq_true rfl, Nat.le_of_ble_eq_true rfl⟩) (mPreV hK hP) rfl rfl hl.1 rfl (lv_room (Nat.le_of_ble_eq_true rfl)) dX1_change_134 ⟨Nat.zero_le _, Nat.zero_le _⟩) hS (fun q _ h => h) (fun q h => h) (fun S161 t H1 locs ht hvm hw161 hB hz1 hk1 hS => ?_)
                          obtain ⟨hP, -⟩ := hB
                          rw [ht] at hP
                          have hI := mI_put hI hw161
                          refine lv_aload_n hx hb dX1_change_137 rfl (lv_at hl 4 rfl) ?_
                          refine lv_iload_n hx hb dX1_change_138 rfl (lv_at hl 5 rfl) ?_
                          refine lv_iload_n hx hb dX1_change_139 rfl (lv_at hl 6 rfl) ?_
                          refine va_calli (va_runV (As := [.int p1, .int p2]) (rest := []) ⟨hx, hb, hml, hown, hts⟩ (c_X1_cell l D a hO S161 p1 p2 hI hn5) (cwV 2 hts gX1_change_X1_cell rfl rfl rfl hdX1_cell ⟨Nat.le_of_ble_eq_true rfl, Nat.le_of_ble_eq_true rfl⟩) (mPreV hK hP) rfl rfl hl.1 rfl (lv_room (Nat.le_of_ble_eq_true rfl)) dX1_change_140 ⟨Nat.zero_le _, Nat.zero_le _⟩) hS (fun q _ h => h) (fun q h => h) (fun r163 S163 t H1 locs ht hvm hw163 hB hz1 hk1 hS => ?_)
                          obtain ⟨hP, -⟩ := hB
                          rw [ht] at hP
                          have hI := mI_cell hI hw163
                          refine lv_istore (lv' := [(9, .int r163), (8, .int 8), (7, .int 8), (6, .int r140), (5, .int 1), (0, .ref (ma a)), (1, .int p1), (2, .int p2), (3, .int p3), (4, .int p4)]) hx hb dX1_change_143 hl (by decide) rfl (fun ls hl => ?_)
                          refine lv_aload_n hx hb dX1_change_145 rfl (lv_at hl 5 rfl) ?_
                          refine lv_iload hx hb dX1_change_146 (lv_at hl 0 rfl) ?_
                          refine va_calli (va_runV (As := [.int r163]) (rest := []) ⟨hx, hb, hml, hown, hts⟩ (c_X1_answer l D a hO S163 r163) (cwV 1 hts gX1_change_X1_answer rfl rfl rfl hdX1_answer ⟨Nat.le_of_ble_eq_true rfl, Nat.le_of_ble_eq_true rfl⟩) (mPreV hK hP) rfl rfl hl.1 rfl (lv_room (Nat.le_of_ble_eq_true rfl)) dX1_change_148 ⟨Nat.zero_le _, Nat.zero_le _⟩) hS (fun q _ h => h) (fun q h => h) (fun r165 S165 t H1 locs ht hvm hw165 hB hz1 hk1 hS => ?_)
                          obtain ⟨hP, -⟩ := hB
                          rw [ht] at hP
                          exact W.iret (v := r165) hx hb hr (fun t ht hW => ⟨⟨r165, S165, rfl, (by simp only [mF_change, hw1, if_neg c2, if_neg c6, if_neg c8, if_pos c11, if_neg c74, hw137, if_neg c138, hw140, if_neg c143, if_neg c144, if_pos c145, if_neg c160, hw161, hw163, hw165]), by rw [ht]; exact hP, va_K.moved hW.alike hK⟩, hS.F ht⟩) hS.2.2 dX1_change_151
                        · refine lv_iload hx hb dX1_change_118 (lv_at hl 2 rfl) ?_
                          refine lv_iload_n hx hb dX1_change_120 rfl (lv_at hl 7 rfl) ?_
                          refine lv_iload hx hb dX1_change_121 (lv_at hl 8 rfl) ?_
                          refine va_calli (va_runS (As := [.int r140, .int p3, .int p4]) (rest := [.int p2, .int p1, .ref (ma a)]) ⟨hx, hb, hml, hown, hts⟩ (c_X1_gate l r140 p3 p4) (va_cwS 3 hts gX1_change_X1_gate rfl rfl rfl hdX1_gate ⟨Nat.le_of_ble_eq_true rfl, Nat.le_of_ble_eq_true rfl⟩) pPreS rfl rfl hl.1 rfl (lv_room (Nat.le_of_ble_eq_true rfl)) dX1_change_123 ⟨Nat.zero_le _, Nat.zero_le _⟩) hS (fun q _ h => h.elim) (fun q h => h.elim) (fun r167 u167 t H1 locs ht hvm hw167 hB hz1 hk1 hS => ?_)
                          have hP := P_kept hP hk1
                          refine lv_goto (tgt := 134) hx hb dX1_change_126 (by decide) ?_
                          refine va_callv (va_runV (As := [.int p1, .int p2, .int r167]) (rest := []) ⟨hx, hb, hml, hown, hts⟩ (c_X1_put l D a hO S140 p1 p2 r167 hI hn5) (cwV 3 hts gX1_change_X1_put rfl rfl rfl hdX1_put ⟨Nat.le_of_ble_eq_true rfl, Nat.le_of_ble_eq_true rfl⟩) (mPreV hK hP) rfl rfl hl.1 rfl (lv_room (Nat.le_of_ble_eq_true rfl)) dX1_change_134 ⟨Nat.zero_le _, Nat.zero_le _⟩) hS (fun q _ h => h) (fun q h => h) (fun S168 t H1 locs ht hvm hw168 hB hz1 hk1 hS => ?_)
                          obtain ⟨hP, -⟩ := hB
                          rw [ht] at hP
                          have hI := mI_put hI hw168
                          refine lv_aload_n hx hb dX1_change_137 rfl (lv_at hl 4 rfl) ?_
                          refine lv_iload_n hx hb dX1_change_138 rfl (lv_at hl 5 rfl) ?_
                          refine lv_iload_n hx hb dX1_change_139 rfl (lv_at hl 6 rfl) ?_
                          refine va_calli (va_runV (As := [.int p1, .int p2]) (rest := []) ⟨hx, hb, hml, hown, hts⟩ (c_X1_cell l D a hO S168 p1 p2 hI hn5) (cwV 2 hts gX1_change_X1_cell rfl rfl rfl hdX1_cell ⟨Nat.le_of_ble_eq_true rfl, Nat.le_of_ble_eq_true rfl⟩) (mPreV hK hP) rfl rfl hl.1 rfl (lv_room (Nat.le_of_ble_eq_true rfl)) dX1_change_140 ⟨Nat.zero_le _, Nat.zero_le _⟩) hS (fun q _ h => h) (fun q h => h) (fun r170 S170 t H1 locs ht hvm hw170 hB hz1 hk1 hS => ?_)
                          obtain ⟨hP, -⟩ := hB
                          rw [ht] at hP
                          have hI := mI_cell hI hw170
                          refine lv_istore (lv' := [(9, .int r170), (8, .int 8), (7, .int 8), (6, .int r140), (5, .int 1), (0, .ref (ma a)), (1, .int p1), (2, .int p2), (3, .int p3), (4, .int p4)]) hx hb dX1_change_143 hl (by decide) rfl (fun ls hl => ?_)
                          refine lv_aload_n hx hb dX1_change_145 rfl (lv_at hl 5 rfl) ?_
                          refine lv_iload hx hb dX1_change_146 (lv_at hl 0 rfl) ?_
                          refine va_calli (va_runV (As := [.int r170]) (rest := []) ⟨hx, hb, hml, hown, hts⟩ (c_X1_answer l D a hO S170 r170) (cwV 1 hts gX1_change_X1_answer rfl rfl rfl hdX1_answer ⟨Nat.le_of_ble_eq_true rfl, Nat.le_of_ble_eq_true rfl⟩) (mPreV hK hP) rfl rfl hl.1 rfl (lv_room (Nat.le_of_ble_eq_true rfl)) dX1_change_148 ⟨Nat.zero_le _, Nat.zero_le _⟩) hS (fun q _ h => h) (fun q h => h) (fun r172 S172 t H1 locs ht hvm hw172 hB hz1 hk1 hS => ?_)
                          obtain ⟨hP, -⟩ := hB
                          rw [ht] at hP
                          exact W.iret (v := r172) hx hb hr (fun t ht hW => ⟨⟨r172, S172, rfl, (by simp only [mF_change, hw1, if_neg c2, if_neg c6, if_neg c8, if_pos c11, if_neg c74, hw137, if_neg c138, hw140, if_neg c143, if_neg c144, if_pos c145, if_pos c160, hw167, hw168, hw170, hw172]), by rw [ht]; exact hP, va_K.moved hW.alike hK⟩, hS.F ht⟩) hS.2.2 dX1_change_151
                    · refine lv_iload hx hb dX1_change_89 (lv_at hl 7 rfl) ?_
                      refine lv_ineg hx hb dX1_change_91 ?_
                      refine lv_goto (tgt := 108) hx hb dX1_change_92 (by decide) ?_
                      refine lv_istore (lv' := [(8, .int (-p4)), (7, .int 8), (6, .int r140), (5, .int 1), (0, .ref (ma a)), (1, .int p1), (2, .int p2), (3, .int p3), (4, .int p4)]) hx hb dX1_change_108 hl (by decide) rfl (fun ls hl => ?_)
                      refine lv_aload_n hx hb dX1_change_110 rfl (lv_at hl 4 rfl) ?_
                      refine lv_iload_n hx hb dX1_change_111 rfl (lv_at hl 5 rfl) ?_
                      refine lv_iload_n hx hb dX1_change_112 rfl (lv_at hl 6 rfl) ?_
                      refine lv_iload_n hx hb dX1_change_113 rfl (lv_at hl 5 rfl) ?_
                      refine lv_iconst (v := 3) hx hb dX1_change_114 (by decide) ?_
                      refine lv_icmp_ne (tgt := 129) hx hb dX1_change_115 (by decide) (fun c174 => ?_) (fun c174 => ?_)
                      · refine lv_iload hx hb dX1_change_129 (lv_at hl 2 rfl) ?_
                        refine lv_iload hx hb dX1_change_131 (lv_at hl 0 rfl) ?_
                        refine lv_iadd hx hb dX1_change_133 ?_
                        refine va_callv (va_runV (As := [.int p1, .int p2, .int (r140 + (-p4))]) (rest := []) ⟨hx, hb, hml, hown, hts⟩ (c_X1_put l D a hO S140 p1 p2 (r140 + (-p4)) hI hn5) (cwV 3 hts gX1_change_X1_put rfl rfl rfl hdX1_put ⟨Nat.le_of_ble_eq_true rfl, Nat.le_of_ble_eq_true rfl⟩) (mPreV hK hP) rfl rfl hl.1 rfl (lv_room (Nat.le_of_ble_eq_true rfl)) dX1_change_134 ⟨Nat.zero_le _, Nat.zero_le _⟩) hS (fun q _ h => h) (fun q h => h) (fun S175 t H1 locs ht hvm hw175 hB hz1 hk1 hS => ?_)
                        obtain ⟨hP, -⟩ := hB
                        rw [ht] at hP
                        have hI := mI_put hI hw175
                        refine lv_aload_n hx hb dX1_change_137 rfl (lv_at hl 4 rfl) ?_
                        refine lv_iload_n hx hb dX1_change_138 rfl (lv_at hl 5 rfl) ?_
                        refine lv_iload_n hx hb dX1_change_139 rfl (lv_at hl 6 rfl) ?_
                        refine va_calli (va_runV (As := [.int p1, .int p2]) (rest := []) ⟨hx, hb, hml, hown, hts⟩ (c_X1_cell l D a hO S175 p1 p2 hI hn5) (cwV 2 hts gX1_change_X1_cell rfl rfl rfl hdX1_cell ⟨Nat.le_of_ble_eq_true rfl, Nat.le_of_ble_eq_true rfl⟩) (mPreV hK hP) rfl rfl hl.1 rfl (lv_room (Nat.le_of_ble_eq_true rfl)) dX1_change_140 ⟨Nat.zero_le _, Nat.zero_le _⟩) hS (fun q _ h => h) (fun q h => h) (fun r177 S177 t H1 locs ht hvm hw177 hB hz1 hk1 hS => ?_)
                        obtain ⟨hP, -⟩ := hB
                        rw [ht] at hP
                        have hI := mI_cell hI hw177
                        refine lv_istore (lv' := [(9, .int r177), (8, .int (-p4)), (7, .int 8), (6, .int r140), (5, .int 1), (0, .ref (ma a)), (1, .int p1), (2, .int p2), (3, .int p3), (4, .int p4)]) hx hb dX1_change_143 hl (by decide) rfl (fun ls hl => ?_)
                        refine lv_aload_n hx hb dX1_change_145 rfl (lv_at hl 5 rfl) ?_
                        refine lv_iload hx hb dX1_change_146 (lv_at hl 0 rfl) ?_
                        refine va_calli (va_runV (As := [.int r177]) (rest := []) ⟨hx, hb, hml, hown, hts⟩ (c_X1_answer l D a hO S177 r177) (cwV 1 hts gX1_change_X1_answer rfl rfl rfl hdX1_answer ⟨Nat.le_of_ble_eq_true rfl, Nat.le_of_ble_eq_true rfl⟩) (mPreV hK hP) rfl rfl hl.1 rfl (lv_room (Nat.le_of_ble_eq_true rfl)) dX1_change_148 ⟨Nat.zero_le _, Nat.zero_le _⟩) hS (fun q _ h => h) (fun q h => h) (fun r179 S179 t H1 locs ht hvm hw179 hB hz1 hk1 hS => ?_)
                        obtain ⟨hP, -⟩ := hB
                        rw [ht] at hP
                        exact W.iret (v := r179) hx hb hr (fun t ht hW => ⟨⟨r179, S179, rfl, (by simp only [mF_change, hw1, if_neg c2, if_neg c6, if_neg c8, if_pos c11, if_neg c74, hw137, if_neg c138, hw140, if_neg c143, if_pos c144, if_neg c174, hw175, hw177, hw179]), by rw [ht]; exact hP, va_K.moved hW.alike hK⟩, hS.F ht⟩) hS.2.2 dX1_change_151
                      · refine lv_iload hx hb dX1_change_118 (lv_at hl 2 rfl) ?_
                        refine lv_iload_n hx hb dX1_change_120 rfl (lv_at hl 7 rfl) ?_
                        refine lv_iload hx hb dX1_change_121 (lv_at hl 8 rfl) ?_
                        refine va_calli (va_runS (As := [.int r140, .int p3, .int p4]) (rest := [.int p2, .int p1, .ref (ma a)]) ⟨hx, hb, hml, hown, hts⟩ (c_X1_gate l r140 p3 p4) (va_cwS 3 hts gX1_change_X1_gate rfl rfl rfl hdX1_gate ⟨Nat.le_of_ble_eq_true rfl, Nat.le_of_ble_eq_true rfl⟩) pPreS rfl rfl hl.1 rfl (lv_room (Nat.le_of_ble_eq_true rfl)) dX1_change_123 ⟨Nat.zero_le _, Nat.zero_le _⟩) hS (fun q _ h => h.elim) (fun q h => h.elim) (fun r181 u181 t H1 locs ht hvm hw181 hB hz1 hk1 hS => ?_)
                        have hP := P_kept hP hk1
                        refine lv_goto (tgt := 134) hx hb dX1_change_126 (by decide) ?_
                        refine va_callv (va_runV (As := [.int p1, .int p2, .int r181]) (rest := []) ⟨hx, hb, hml, hown, hts⟩ (c_X1_put l D a hO S140 p1 p2 r181 hI hn5) (cwV 3 hts gX1_change_X1_put rfl rfl rfl hdX1_put ⟨Nat.le_of_ble_eq_true rfl, Nat.le_of_ble_eq_true rfl⟩) (mPreV hK hP) rfl rfl hl.1 rfl (lv_room (Nat.le_of_ble_eq_true rfl)) dX1_change_134 ⟨Nat.zero_le _, Nat.zero_le _⟩) hS (fun q _ h => h) (fun q h => h) (fun S182 t H1 locs ht hvm hw182 hB hz1 hk1 hS => ?_)
                        obtain ⟨hP, -⟩ := hB
                        rw [ht] at hP
                        have hI := mI_put hI hw182
                        refine lv_aload_n hx hb dX1_change_137 rfl (lv_at hl 4 rfl) ?_
                        refine lv_iload_n hx hb dX1_change_138 rfl (lv_at hl 5 rfl) ?_
                        refine lv_iload_n hx hb dX1_change_139 rfl (lv_at hl 6 rfl) ?_
                        refine va_calli (va_runV (As := [.int p1, .int p2]) (rest := []) ⟨hx, hb, hml, hown, hts⟩ (c_X1_cell l D a hO S182 p1 p2 hI hn5) (cwV 2 hts gX1_change_X1_cell rfl rfl rfl hdX1_cell ⟨Nat.le_of_ble_eq_true rfl, Nat.le_of_ble_eq_true rfl⟩) (mPreV hK hP) rfl rfl hl.1 rfl (lv_room (Nat.le_of_ble_eq_true rfl)) dX1_change_140 ⟨Nat.zero_le _, Nat.zero_le _⟩) hS (fun q _ h => h) (fun q h => h) (fun r184 S184 t H1 locs ht hvm hw184 hB hz1 hk1 hS => ?_)
                        obtain ⟨hP, -⟩ := hB
                        rw [ht] at hP
                        have hI := mI_cell hI hw184
                        refine lv_istore (lv' := [(9, .int r184), (8, .int (-p4)), (7, .int 8), (6, .int r140), (5, .int 1), (0, .ref (ma a)), (1, .int p1), (2, .int p2), (3, .int p3), (4, .int p4)]) hx hb dX1_change_143 hl (by decide) rfl (fun ls hl => ?_)
                        refine lv_aload_n hx hb dX1_change_145 rfl (lv_at hl 5 rfl) ?_
                        refine lv_iload hx hb dX1_change_146 (lv_at hl 0 rfl) ?_
                        refine va_calli (va_runV (As := [.int r184]) (rest := []) ⟨hx, hb, hml, hown, hts⟩ (c_X1_answer l D a hO S184 r184) (cwV 1 hts gX1_change_X1_answer rfl rfl rfl hdX1_answer ⟨Nat.le_of_ble_eq_true rfl, Nat.le_of_ble_eq_true rfl⟩) (mPreV hK hP) rfl rfl hl.1 rfl (lv_room (Nat.le_of_ble_eq_true rfl)) dX1_change_148 ⟨Nat.zero_le _, Nat.zero_le _⟩) hS (fun q _ h => h) (fun q h => h) (fun r186 S186 t H1 locs ht hvm hw186 hB hz1 hk1 hS => ?_)
                        obtain ⟨hP, -⟩ := hB
                        rw [ht] at hP
                        exact W.iret (v := r186) hx hb hr (fun t ht hW => ⟨⟨r186, S186, rfl, (by simp only [mF_change, hw1, if_neg c2, if_neg c6, if_neg c8, if_pos c11, if_neg c74, hw137, if_neg c138, hw140, if_neg c143, if_pos c144, if_pos c174, hw181, hw182, hw184, hw186]), by rw [ht]; exact hP, va_K.moved hW.alike hK⟩, hS.F ht⟩) hS.2.2 dX1_change_151
                  · refine lv_iload hx hb dX1_change_79 (lv_at hl 7 rfl) ?_
                    refine lv_goto (tgt := 108) hx hb dX1_change_81 (by decide) ?_
                    refine lv_istore (lv' := [(8, .int p4), (7, .int 8), (6, .int r140), (5, .int 1), (0, .ref (ma a)), (1, .int p1), (2, .int p2), (3, .int p3), (4, .int p4)]) hx hb dX1_change_108 hl (by decide) rfl (fun ls hl => ?_)
                    refine lv_aload_n hx hb dX1_change_110 rfl (lv_at hl 4 rfl) ?_
                    refine lv_iload_n hx hb dX1_change_111 rfl (lv_at hl 5 rfl) ?_
                    refine lv_iload_n hx hb dX1_change_112 rfl (lv_at hl 6 rfl) ?_
                    refine lv_iload_n hx hb dX1_change_113 rfl (lv_at hl 5 rfl) ?_
                    refine lv_iconst (v := 3) hx hb dX1_change_114 (by decide) ?_
                    refine lv_icmp_ne (tgt := 129) hx hb dX1_change_115 (by decide) (fun c188 => ?_) (fun c188 => ?_)
                    · refine lv_iload hx hb dX1_change_129 (lv_at hl 2 rfl) ?_
                      refine lv_iload hx hb dX1_change_131 (lv_at hl 0 rfl) ?_
                      refine lv_iadd hx hb dX1_change_133 ?_
                      refine va_callv (va_runV (As := [.int p1, .int p2, .int (r140 + p4)]) (rest := []) ⟨hx, hb, hml, hown, hts⟩ (c_X1_put l D a hO S140 p1 p2 (r140 + p4) hI hn5) (cwV 3 hts gX1_change_X1_put rfl rfl rfl hdX1_put ⟨Nat.le_of_ble_eq_true rfl, Nat.le_of_ble_eq_true rfl⟩) (mPreV hK hP) rfl rfl hl.1 rfl (lv_room (Nat.le_of_ble_eq_true rfl)) dX1_change_134 ⟨Nat.zero_le _, Nat.zero_le _⟩) hS (fun q _ h => h) (fun q h => h) (fun S189 t H1 locs ht hvm hw189 hB hz1 hk1 hS => ?_)
                      obtain ⟨hP, -⟩ := hB
                      rw [ht] at hP
                      have hI := mI_put hI hw189
                      refine lv_aload_n hx hb dX1_change_137 rfl (lv_at hl 4 rfl) ?_
                      refine lv_iload_n hx hb dX1_change_138 rfl (lv_at hl 5 rfl) ?_
                      refine lv_iload_n hx hb dX1_change_139 rfl (lv_at hl 6 rfl) ?_
                      refine va_calli (va_runV (As := [.int p1, .int p2]) (rest := []) ⟨hx, hb, hml, hown, hts⟩ (c_X1_cell l D a hO S189 p1 p2 hI hn5) (cwV 2 hts gX1_change_X1_cell rfl rfl rfl hdX1_cell ⟨Nat.le_of_ble_eq_true rfl, Nat.le_of_ble_eq_true rfl⟩) (mPreV hK hP) rfl rfl hl.1 rfl (lv_room (Nat.le_of_ble_eq_true rfl)) dX1_change_140 ⟨Nat.zero_le _, Nat.zero_le _⟩) hS (fun q _ h => h) (fun q h => h) (fun r191 S191 t H1 locs ht hvm hw191 hB hz1 hk1 hS => ?_)
                      obtain ⟨hP, -⟩ := hB
                      rw [ht] at hP
                      have hI := mI_cell hI hw191
                      refine lv_istore (lv' := [(9, .int r191), (8, .int p4), (7, .int 8), (6, .int r140), (5, .int 1), (0, .ref (ma a)), (1, .int p1), (2, .int p2), (3, .int p3), (4, .int p4)]) hx hb dX1_change_143 hl (by decide) rfl (fun ls hl => ?_)
                      refine lv_aload_n hx hb dX1_change_145 rfl (lv_at hl 5 rfl) ?_
                      refine lv_iload hx hb dX1_change_146 (lv_at hl 0 rfl) ?_
                      refine va_calli (va_runV (As := [.int r191]) (rest := []) ⟨hx, hb, hml, hown, hts⟩ (c_X1_answer l D a hO S191 r191) (cwV 1 hts gX1_change_X1_answer rfl rfl rfl hdX1_answer ⟨Nat.le_of_ble_eq_true rfl, Nat.le_of_ble_eq_true rfl⟩) (mPreV hK hP) rfl rfl hl.1 rfl (lv_room (Nat.le_of_ble_eq_true rfl)) dX1_change_148 ⟨Nat.zero_le _, Nat.zero_le _⟩) hS (fun q _ h => h) (fun q h => h) (fun r193 S193 t H1 locs ht hvm hw193 hB hz1 hk1 hS => ?_)
                      obtain ⟨hP, -⟩ := hB
                      rw [ht] at hP
                      exact W.iret (v := r193) hx hb hr (fun t ht hW => ⟨⟨r193, S193, rfl, (by simp only [mF_change, hw1, if_neg c2, if_neg c6, if_neg c8, if_pos c11, if_neg c74, hw137, if_neg c138, hw140, if_pos c143, if_neg c188, hw189, hw191, hw193]), by rw [ht]; exact hP, va_K.moved hW.alike hK⟩, hS.F ht⟩) hS.2.2 dX1_change_151
                    · refine lv_iload hx hb dX1_change_118 (lv_at hl 2 rfl) ?_
                      refine lv_iload_n hx hb dX1_change_120 rfl (lv_at hl 7 rfl) ?_
                      refine lv_iload hx hb dX1_change_121 (lv_at hl 8 rfl) ?_
                      refine va_calli (va_runS (As := [.int r140, .int p3, .int p4]) (rest := [.int p2, .int p1, .ref (ma a)]) ⟨hx, hb, hml, hown, hts⟩ (c_X1_gate l r140 p3 p4) (va_cwS 3 hts gX1_change_X1_gate rfl rfl rfl hdX1_gate ⟨Nat.le_of_ble_eq_true rfl, Nat.le_of_ble_eq_true rfl⟩) pPreS rfl rfl hl.1 rfl (lv_room (Nat.le_of_ble_eq_true rfl)) dX1_change_123 ⟨Nat.zero_le _, Nat.zero_le _⟩) hS (fun q _ h => h.elim) (fun q h => h.elim) (fun r195 u195 t H1 locs ht hvm hw195 hB hz1 hk1 hS => ?_)
                      have hP := P_kept hP hk1
                      refine lv_goto (tgt := 134) hx hb dX1_change_126 (by decide) ?_
                      refine va_callv (va_runV (As := [.int p1, .int p2, .int r195]) (rest := []) ⟨hx, hb, hml, hown, hts⟩ (c_X1_put l D a hO S140 p1 p2 r195 hI hn5) (cwV 3 hts gX1_change_X1_put rfl rfl rfl hdX1_put ⟨Nat.le_of_ble_eq_true rfl, Nat.le_of_ble_eq_true rfl⟩) (mPreV hK hP) rfl rfl hl.1 rfl (lv_room (Nat.le_of_ble_eq_true rfl)) dX1_change_134 ⟨Nat.zero_le _, Nat.zero_le _⟩) hS (fun q _ h => h) (fun q h => h) (fun S196 t H1 locs ht hvm hw196 hB hz1 hk1 hS => ?_)
                      obtain ⟨hP, -⟩ := hB
                      rw [ht] at hP
                      have hI := mI_put hI hw196
                      refine lv_aload_n hx hb dX1_change_137 rfl (lv_at hl 4 rfl) ?_
                      refine lv_iload_n hx hb dX1_change_138 rfl (lv_at hl 5 rfl) ?_
                      refine lv_iload_n hx hb dX1_change_139 rfl (lv_at hl 6 rfl) ?_
                      refine va_calli (va_runV (As := [.int p1, .int p2]) (rest := []) ⟨hx, hb, hml, hown, hts⟩ (c_X1_cell l D a hO S196 p1 p2 hI hn5) (cwV 2 hts gX1_change_X1_cell rfl rfl rfl hdX1_cell ⟨Nat.le_of_ble_eq_true rfl, Nat.le_of_ble_eq_true rfl⟩) (mPreV hK hP) rfl rfl hl.1 rfl (lv_room (Nat.le_of_ble_eq_true rfl)) dX1_change_140 ⟨Nat.zero_le _, Nat.zero_le _⟩) hS (fun q _ h => h) (fun q h => h) (fun r198 S198 t H1 locs ht hvm hw198 hB hz1 hk1 hS => ?_)
                      obtain ⟨hP, -⟩ := hB
                      rw [ht] at hP
                      have hI := mI_cell hI hw198
                      refine lv_istore (lv' := [(9, .int r198), (8, .int p4), (7, .int 8), (6, .int r140), (5, .int 1), (0, .ref (ma a)), (1, .int p1), (2, .int p2), (3, .int p3), (4, .int p4)]) hx hb dX1_change_143 hl (by decide) rfl (fun ls hl => ?_)
                      refine lv_aload_n hx hb dX1_change_145 rfl (lv_at hl 5 rfl) ?_
                      refine lv_iload hx hb dX1_change_146 (lv_at hl 0 rfl) ?_
                      refine va_calli (va_runV (As := [.int r198]) (rest := []) ⟨hx, hb, hml, hown, hts⟩ (c_X1_answer l D a hO S198 r198) (cwV 1 hts gX1_change_X1_answer rfl rfl rfl hdX1_answer ⟨Nat.le_of_ble_eq_true rfl, Nat.le_of_ble_eq_true rfl⟩) (mPreV hK hP) rfl rfl hl.1 rfl (lv_room (Nat.le_of_ble_eq_true rfl)) dX1_change_148 ⟨Nat.zero_le _, Nat.zero_le _⟩) hS (fun q _ h => h) (fun q h => h) (fun r200 S200 t H1 locs ht hvm hw200 hB hz1 hk1 hS => ?_)
                      obtain ⟨hP, -⟩ := hB
                      rw [ht] at hP
                      exact W.iret (v := r200) hx hb hr (fun t ht hW => ⟨⟨r200, S200, rfl, (by simp only [mF_change, hw1, if_neg c2, if_neg c6, if_neg c8, if_pos c11, if_neg c74, hw137, if_neg c138, hw140, if_pos c143, if_pos c188, hw195, hw196, hw198, hw200]), by rw [ht]; exact hP, va_K.moved hW.alike hK⟩, hS.F ht⟩) hS.2.2 dX1_change_151
              · refine lv_ldc (v := (-300000)) hx hb hown hk50 dX1_change_46 ?_
                exact W.iret (v := (-300000)) hx hb hr (fun t ht hW => ⟨⟨(-300000), S, rfl, (by simp only [mF_change, hw1, if_neg c2, if_neg c6, if_neg c8, if_pos c11, if_neg c74, hw137, if_pos c138]), by rw [ht]; exact hP, va_K.moved hW.alike hK⟩, hS.F ht⟩) hS.2.2 dX1_change_48
def mF_sluice (S : MS) (p1 p2 : Int32) : Int32 × MS := (if (mF_isChamber S p1) = 0 then ((-300000), S) else (let q4 := mF_more (msFa S 0) 1 p1 (-p2); (let q6 := mF_cell q4 1 p1; (if (mN q6.2) ≤ (p1 + 1) then (let q9 := mF_answer q6.2 q6.1; (q9.1, q9.2)) else (let q11 := mF_more q6.2 1 (p1 + 1) p2; (let q13 := mF_answer q11 q6.1; (q13.1, q13.2)))))))
theorem hdX1_sluice : yX1_sluice.cls = RX1 ∧ yX1_sluice.cls ≠ "java/lang/invoke/MethodHandle" ∧ yX1_sluice.cls ≠ "java/lang/invoke/VarHandle" ∧ (parseMethodDescriptor yX1_sluice.desc).map (fun d => d.parameters.length) = some 2 := by decide +kernel
set_option maxHeartbeats 4000000 in
set_option maxRecDepth 100000 in
theorem c_X1_sluice (l : Launch) (D : va_G) (a : MA) (hO : mOk a) (S : MS) (p1 p2 : Int32) (hI : mI S) : Met l yX1_sluice wsX1_sluice ({ frames := 2, cells := 0, slots := 0, locals := 45 }) (va_Pc [.ref (ma a), .int p1, .int p2] (mB D a S)) (mQi D a (mF_sluice S p1 p2)) 0 0 (mA a) := by
  refine Met.ofW (cc := cX1_sluice) (maxL := 4) (ret := (some .int)) (by decide) rfl ?_
  intro p e s m args below meth c s₁ B hml hv
  obtain ⟨rfl, hP, hK⟩ := hv
  have hx := B.exec
  have hb := B.bytes
  have hr := B.returns
  have hts := atoms_spec (ws := wsX1_sluice) B.pre
  have hown : s.vm.findClass RX1 = some m.cls := findClass_of_methodNamed B.named
  have hlocks := B.notSynchronized
  have hS : va_S (mA a) s.heap s.heap [] := va_S.rf
  have hP : va_P D vwCl (mW a S) s.heap := hP
  have hu : ∀ w ∈ wsX10, w ∈ wsX1_sluice := fun _ h => List.mem_cons_of_mem _ (List.mem_append_right _ h)
  have hf23 := hts (.fieldLink RX1 23 "FlightBooksModel" "fault" "I") (by decide +kernel)
  have hf19 := hts (.fieldLink RX1 19 "FlightBooksModel" "chambers" "I") (by decide +kernel)
  have hk50 := hts (.constant RX1 50 (-300000)) (by decide +kernel)
  have hl := lv_entry ([.ref (ma a), .int p1, .int p2]) (n := 4) (Nat.le_of_ble_eq_true rfl)
  rw [lg_entry_eq]
  generalize (lg_sl ([.ref (ma a), .int p1, .int p2]) ++ List.replicate (4 - (lg_sl ([.ref (ma a), .int p1, .int p2])).length) Slot.unset).toArray = ls at hl ⊢
  have hl : lv_has ls 4 [(0, .ref (ma a)), (1, .int p1), (2, .int p2)] := hl
  refine lv_aload_n hx hb dX1_sluice_0 rfl (lv_at hl 0 rfl) ?_
  refine lv_iload_n hx hb dX1_sluice_1 rfl (lv_at hl 1 rfl) ?_
  refine va_calli (va_runV (As := [.int p1]) (rest := []) ⟨hx, hb, hml, hown, hts⟩ (c_X1_isChamber l D a hO S p1) (cwV 1 hts gX1_sluice_X1_isChamber rfl rfl rfl hdX1_isChamber ⟨Nat.le_of_ble_eq_true rfl, Nat.le_of_ble_eq_true rfl⟩) (mPreV hK hP) rfl rfl hl.1 rfl (lv_room (Nat.le_of_ble_eq_true rfl)) dX1_sluice_2 ⟨Nat.zero_le _, Nat.zero_le _⟩) hS (fun q _ h => h) (fun q h => h) (fun r1 S1 t H1 locs ht hvm hw1 hB hz1 hk1 hS => ?_)
  obtain ⟨hP, -⟩ := hB
  rw [ht] at hP
  obtain ⟨hw1, hSe1⟩ := hw1
  rw [hSe1] at hP
  refine lv_if_ne (tgt := 11) hx hb dX1_sluice_5 (by decide) (fun c2 => ?_) (fun c2 => ?_)
  · have hn3 := me_cham hI hw1 c2
    refine lv_aload_n hx hb dX1_sluice_11 rfl (lv_at hl 0 rfl) ?_
    refine lv_iconst (v := 0) hx hb dX1_sluice_12 (by decide) ?_
    refine m_puti hx hb hts hu hown hO hK hP hS 11 (by decide) hf23 rfl rfl (by decide +kernel) (msFa S) (fun _ => rfl) (fun _ => rfl) dX1_sluice_13 (fun H locs hP hS => ?_)
    have hI := mI_fault 0 hI
    refine lv_aload_n hx hb dX1_sluice_16 rfl (lv_at hl 0 rfl) ?_
    refine lv_iconst (v := 1) hx hb dX1_sluice_17 (by decide) ?_
    refine lv_iload_n hx hb dX1_sluice_18 rfl (lv_at hl 1 rfl) ?_
    refine lv_iload_n hx hb dX1_sluice_19 rfl (lv_at hl 2 rfl) ?_
    refine lv_ineg hx hb dX1_sluice_20 ?_
    refine va_callv (va_runV (As := [.int 1, .int p1, .int (-p2)]) (rest := []) ⟨hx, hb, hml, hown, hts⟩ (c_X1_more l D a hO (msFa S 0) 1 p1 (-p2) hI vp_k1_5) (cwV 3 hts gX1_sluice_X1_more rfl rfl rfl hdX1_more ⟨Nat.le_of_ble_eq_true rfl, Nat.le_of_ble_eq_true rfl⟩) (mPreV hK hP) rfl rfl hl.1 rfl (lv_room (Nat.le_of_ble_eq_true rfl)) dX1_sluice_21 ⟨Nat.zero_le _, Nat.zero_le _⟩) hS (fun q _ h => h) (fun q h => h) (fun S4 t H1 locs ht hvm hw4 hB hz1 hk1 hS => ?_)
    obtain ⟨hP, -⟩ := hB
    rw [ht] at hP
    have hI := mI_more hI hw4
    refine lv_aload_n hx hb dX1_sluice_24 rfl (lv_at hl 0 rfl) ?_
    refine lv_iconst (v := 1) hx hb dX1_sluice_25 (by decide) ?_
    refine lv_iload_n hx hb dX1_sluice_26 rfl (lv_at hl 1 rfl) ?_
    refine va_calli (va_runV (As := [.int 1, .int p1]) (rest := []) ⟨hx, hb, hml, hown, hts⟩ (c_X1_cell l D a hO S4 1 p1 hI vp_k1_5) (cwV 2 hts gX1_sluice_X1_cell rfl rfl rfl hdX1_cell ⟨Nat.le_of_ble_eq_true rfl, Nat.le_of_ble_eq_true rfl⟩) (mPreV hK hP) rfl rfl hl.1 rfl (lv_room (Nat.le_of_ble_eq_true rfl)) dX1_sluice_27 ⟨Nat.zero_le _, Nat.zero_le _⟩) hS (fun q _ h => h) (fun q h => h) (fun r6 S6 t H1 locs ht hvm hw6 hB hz1 hk1 hS => ?_)
    obtain ⟨hP, -⟩ := hB
    rw [ht] at hP
    have hI := mI_cell hI hw6
    refine lv_istore_n (lv' := [(3, .int r6), (0, .ref (ma a)), (1, .int p1), (2, .int p2)]) hx hb dX1_sluice_30 rfl hl (by decide) rfl (fun ls hl => ?_)
    refine lv_iload_n hx hb dX1_sluice_31 rfl (lv_at hl 2 rfl) ?_
    refine lv_iconst (v := 1) hx hb dX1_sluice_32 (by decide) ?_
    refine lv_iadd hx hb dX1_sluice_33 ?_
    refine lv_aload_n hx hb dX1_sluice_34 rfl (lv_at hl 1 rfl) ?_
    refine m_get hx hb hts hu hown hK hP 0 (by decide) hf19 rfl (v := .int (mN S6)) rfl dX1_sluice_35 ?_
    refine lv_icmp_ge (tgt := 50) hx hb dX1_sluice_38 (by decide) (fun c8 => ?_) (fun c8 => ?_)
    · refine lv_aload_n hx hb dX1_sluice_50 rfl (lv_at hl 1 rfl) ?_
      refine lv_iload_n hx hb dX1_sluice_51 rfl (lv_at hl 0 rfl) ?_
      refine va_calli (va_runV (As := [.int r6]) (rest := []) ⟨hx, hb, hml, hown, hts⟩ (c_X1_answer l D a hO S6 r6) (cwV 1 hts gX1_sluice_X1_answer rfl rfl rfl hdX1_answer ⟨Nat.le_of_ble_eq_true rfl, Nat.le_of_ble_eq_true rfl⟩) (mPreV hK hP) rfl rfl hl.1 rfl (lv_room (Nat.le_of_ble_eq_true rfl)) dX1_sluice_52 ⟨Nat.zero_le _, Nat.zero_le _⟩) hS (fun q _ h => h) (fun q h => h) (fun r9 S9 t H1 locs ht hvm hw9 hB hz1 hk1 hS => ?_)
      obtain ⟨hP, -⟩ := hB
      rw [ht] at hP
      exact W.iret (v := r9) hx hb hr (fun t ht hW => ⟨⟨r9, S9, rfl, (by simp only [mF_sluice, hw1, if_neg c2, hw4, hw6, if_pos c8, hw9]), by rw [ht]; exact hP, va_K.moved hW.alike hK⟩, hS.F ht⟩) hS.2.2 dX1_sluice_55
    · refine lv_aload_n hx hb dX1_sluice_41 rfl (lv_at hl 1 rfl) ?_
      refine lv_iconst (v := 1) hx hb dX1_sluice_42 (by decide) ?_
      refine lv_iload_n hx hb dX1_sluice_43 rfl (lv_at hl 2 rfl) ?_
      refine lv_iconst (v := 1) hx hb dX1_sluice_44 (by decide) ?_
      refine lv_iadd hx hb dX1_sluice_45 ?_
      refine lv_iload_n hx hb dX1_sluice_46 rfl (lv_at hl 3 rfl) ?_
      refine va_callv (va_runV (As := [.int 1, .int (p1 + 1), .int p2]) (rest := []) ⟨hx, hb, hml, hown, hts⟩ (c_X1_more l D a hO S6 1 (p1 + 1) p2 hI vp_k1_5) (cwV 3 hts gX1_sluice_X1_more rfl rfl rfl hdX1_more ⟨Nat.le_of_ble_eq_true rfl, Nat.le_of_ble_eq_true rfl⟩) (mPreV hK hP) rfl rfl hl.1 rfl (lv_room (Nat.le_of_ble_eq_true rfl)) dX1_sluice_47 ⟨Nat.zero_le _, Nat.zero_le _⟩) hS (fun q _ h => h) (fun q h => h) (fun S11 t H1 locs ht hvm hw11 hB hz1 hk1 hS => ?_)
      obtain ⟨hP, -⟩ := hB
      rw [ht] at hP
      have hI := mI_more hI hw11
      refine lv_aload_n hx hb dX1_sluice_50 rfl (lv_at hl 1 rfl) ?_
      refine lv_iload_n hx hb dX1_sluice_51 rfl (lv_at hl 0 rfl) ?_
      refine va_calli (va_runV (As := [.int r6]) (rest := []) ⟨hx, hb, hml, hown, hts⟩ (c_X1_answer l D a hO S11 r6) (cwV 1 hts gX1_sluice_X1_answer rfl rfl rfl hdX1_answer ⟨Nat.le_of_ble_eq_true rfl, Nat.le_of_ble_eq_true rfl⟩) (mPreV hK hP) rfl rfl hl.1 rfl (lv_room (Nat.le_of_ble_eq_true rfl)) dX1_sluice_52 ⟨Nat.zero_le _, Nat.zero_le _⟩) hS (fun q _ h => h) (fun q h => h) (fun r13 S13 t H1 locs ht hvm hw13 hB hz1 hk1 hS => ?_)
      obtain ⟨hP, -⟩ := hB
      rw [ht] at hP
      exact W.iret (v := r13) hx hb hr (fun t ht hW => ⟨⟨r13, S13, rfl, (by simp only [mF_sluice, hw1, if_neg c2, hw4, hw6, if_neg c8, hw11, hw13]), by rw [ht]; exact hP, va_K.moved hW.alike hK⟩, hS.F ht⟩) hS.2.2 dX1_sluice_55
  · refine lv_ldc (v := (-300000)) hx hb hown hk50 dX1_sluice_8 ?_
    exact W.iret (v := (-300000)) hx hb hr (fun t ht hW => ⟨⟨(-300000), S, rfl, (by simp only [mF_sluice, hw1, if_pos c2]), by rw [ht]; exact hP, va_K.moved hW.alike hK⟩, hS.F ht⟩) hS.2.2 dX1_sluice_10
def mF_open (S : MS) (p1 : Int32) : Int32 × MS := (if (mF_isChamber S p1) = 0 then ((-300000), S) else (let q4 := mF_cell (msFa S 0) 1 p1; (if (mN q4.2) ≤ (p1 + 1) then (if (mFa q4.2) = 0 then (if q4.1 = 0 then (let q14 := mF_put q4.2 3 p1 1; (let q16 := mF_answer q14 0; (q16.1, q16.2))) else ((-2), q4.2)) else (let q8 := mF_put q4.2 3 p1 1; (let q10 := mF_answer q8 0; (q10.1, q10.2)))) else (let q19 := mF_cell q4.2 1 (p1 + 1); (if (mFa q19.2) = 0 then (if q4.1 = q19.1 then (let q27 := mF_put q19.2 3 p1 1; (let q29 := mF_answer q27 0; (q29.1, q29.2))) else ((-2), q19.2)) else (let q22 := mF_put q19.2 3 p1 1; (let q24 := mF_answer q22 0; (q24.1, q24.2))))))))
theorem hdX1_open : yX1_open.cls = RX1 ∧ yX1_open.cls ≠ "java/lang/invoke/MethodHandle" ∧ yX1_open.cls ≠ "java/lang/invoke/VarHandle" ∧ (parseMethodDescriptor yX1_open.desc).map (fun d => d.parameters.length) = some 1 := by decide +kernel
set_option maxHeartbeats 4000000 in
set_option maxRecDepth 100000 in
theorem c_X1_open (l : Launch) (D : va_G) (a : MA) (hO : mOk a) (S : MS) (p1 : Int32) (hI : mI S) : Met l yX1_open wsX1_open ({ frames := 2, cells := 0, slots := 0, locals := 45 }) (va_Pc [.ref (ma a), .int p1] (mB D a S)) (mQi D a (mF_open S p1)) 0 0 (mA a) := by
  refine Met.ofW (cc := cX1_open) (maxL := 4) (ret := (some .int)) (by decide) rfl ?_
  intro p e s m args below meth c s₁ B hml hv
  obtain ⟨rfl, hP, hK⟩ := hv
  have hx := B.exec
  have hb := B.bytes
  have hr := B.returns
  have hts := atoms_spec (ws := wsX1_open) B.pre
  have hown : s.vm.findClass RX1 = some m.cls := findClass_of_methodNamed B.named
  have hlocks := B.notSynchronized
  have hS : va_S (mA a) s.heap s.heap [] := va_S.rf
  have hP : va_P D vwCl (mW a S) s.heap := hP
  have hu : ∀ w ∈ wsX10, w ∈ wsX1_open := fun _ h => List.mem_cons_of_mem _ (List.mem_append_right _ h)
  have hf23 := hts (.fieldLink RX1 23 "FlightBooksModel" "fault" "I") (by decide +kernel)
  have hf19 := hts (.fieldLink RX1 19 "FlightBooksModel" "chambers" "I") (by decide +kernel)
  have hk50 := hts (.constant RX1 50 (-300000)) (by decide +kernel)
  have hl := lv_entry ([.ref (ma a), .int p1]) (n := 4) (Nat.le_of_ble_eq_true rfl)
  rw [lg_entry_eq]
  generalize (lg_sl ([.ref (ma a), .int p1]) ++ List.replicate (4 - (lg_sl ([.ref (ma a), .int p1])).length) Slot.unset).toArray = ls at hl ⊢
  have hl : lv_has ls 4 [(0, .ref (ma a)), (1, .int p1)] := hl
  refine lv_aload_n hx hb dX1_open_0 rfl (lv_at hl 0 rfl) ?_
  refine lv_iload_n hx hb dX1_open_1 rfl (lv_at hl 1 rfl) ?_
  refine va_calli (va_runV (As := [.int p1]) (rest := []) ⟨hx, hb, hml, hown, hts⟩ (c_X1_isChamber l D a hO S p1) (cwV 1 hts gX1_open_X1_isChamber rfl rfl rfl hdX1_isChamber ⟨Nat.le_of_ble_eq_true rfl, Nat.le_of_ble_eq_true rfl⟩) (mPreV hK hP) rfl rfl hl.1 rfl (lv_room (Nat.le_of_ble_eq_true rfl)) dX1_open_2 ⟨Nat.zero_le _, Nat.zero_le _⟩) hS (fun q _ h => h) (fun q h => h) (fun r1 S1 t H1 locs ht hvm hw1 hB hz1 hk1 hS => ?_)
  obtain ⟨hP, -⟩ := hB
  rw [ht] at hP
  obtain ⟨hw1, hSe1⟩ := hw1
  rw [hSe1] at hP
  refine lv_if_ne (tgt := 11) hx hb dX1_open_5 (by decide) (fun c2 => ?_) (fun c2 => ?_)
  · have hn3 := me_cham hI hw1 c2
    refine lv_aload_n hx hb dX1_open_11 rfl (lv_at hl 0 rfl) ?_
    refine lv_iconst (v := 0) hx hb dX1_open_12 (by decide) ?_
    refine m_puti hx hb hts hu hown hO hK hP hS 11 (by decide) hf23 rfl rfl (by decide +kernel) (msFa S) (fun _ => rfl) (fun _ => rfl) dX1_open_13 (fun H locs hP hS => ?_)
    have hI := mI_fault 0 hI
    refine lv_aload_n hx hb dX1_open_16 rfl (lv_at hl 0 rfl) ?_
    refine lv_iconst (v := 1) hx hb dX1_open_17 (by decide) ?_
    refine lv_iload_n hx hb dX1_open_18 rfl (lv_at hl 1 rfl) ?_
    refine va_calli (va_runV (As := [.int 1, .int p1]) (rest := []) ⟨hx, hb, hml, hown, hts⟩ (c_X1_cell l D a hO (msFa S 0) 1 p1 hI vp_k1_5) (cwV 2 hts gX1_open_X1_cell rfl rfl rfl hdX1_cell ⟨Nat.le_of_ble_eq_true rfl, Nat.le_of_ble_eq_true rfl⟩) (mPreV hK hP) rfl rfl hl.1 rfl (lv_room (Nat.le_of_ble_eq_true rfl)) dX1_open_19 ⟨Nat.zero_le _, Nat.zero_le _⟩) hS (fun q _ h => h) (fun q h => h) (fun r4 S4 t H1 locs ht hvm hw4 hB hz1 hk1 hS => ?_)
    obtain ⟨hP, -⟩ := hB
    rw [ht] at hP
    have hI := mI_cell hI hw4
    refine lv_istore_n (lv' := [(2, .int r4), (0, .ref (ma a)), (1, .int p1)]) hx hb dX1_open_22 rfl hl (by decide) rfl (fun ls hl => ?_)
    refine lv_iload_n hx hb dX1_open_23 rfl (lv_at hl 2 rfl) ?_
    refine lv_iconst (v := 1) hx hb dX1_open_24 (by decide) ?_
    refine lv_iadd hx hb dX1_open_25 ?_
    refine lv_aload_n hx hb dX1_open_26 rfl (lv_at hl 1 rfl) ?_
    refine m_get hx hb hts hu hown hK hP 0 (by decide) hf19 rfl (v := .int (mN S4)) rfl dX1_open_27 ?_
    refine lv_icmp_ge (tgt := 44) hx hb dX1_open_30 (by decide) (fun c6 => ?_) (fun c6 => ?_)
    · refine lv_iconst (v := 0) hx hb dX1_open_44 (by decide) ?_
      refine lv_istore_n (lv' := [(3, .int 0), (2, .int r4), (0, .ref (ma a)), (1, .int p1)]) hx hb dX1_open_45 rfl hl (by decide) rfl (fun ls hl => ?_)
      refine lv_aload_n hx hb dX1_open_46 rfl (lv_at hl 2 rfl) ?_
      refine m_get hx hb hts hu hown hK hP 11 (by decide) hf23 rfl (v := .int (mFa S4)) rfl dX1_open_47 ?_
      refine lv_if_ne (tgt := 61) hx hb dX1_open_50 (by decide) (fun c7 => ?_) (fun c7 => ?_)
      · refine lv_aload_n hx hb dX1_open_61 rfl (lv_at hl 2 rfl) ?_
        refine lv_iconst (v := 3) hx hb dX1_open_62 (by decide) ?_
        refine lv_iload_n hx hb dX1_open_63 rfl (lv_at hl 3 rfl) ?_
        refine lv_iconst (v := 1) hx hb dX1_open_64 (by decide) ?_
        refine va_callv (va_runV (As := [.int 3, .int p1, .int 1]) (rest := []) ⟨hx, hb, hml, hown, hts⟩ (c_X1_put l D a hO S4 3 p1 1 hI vp_k3_5) (cwV 3 hts gX1_open_X1_put rfl rfl rfl hdX1_put ⟨Nat.le_of_ble_eq_true rfl, Nat.le_of_ble_eq_true rfl⟩) (mPreV hK hP) rfl rfl hl.1 rfl (lv_room (Nat.le_of_ble_eq_true rfl)) dX1_open_65 ⟨Nat.zero_le _, Nat.zero_le _⟩) hS (fun q _ h => h) (fun q h => h) (fun S8 t H1 locs ht hvm hw8 hB hz1 hk1 hS => ?_)
        obtain ⟨hP, -⟩ := hB
        rw [ht] at hP
        have hI := mI_put hI hw8
        refine lv_aload_n hx hb dX1_open_68 rfl (lv_at hl 2 rfl) ?_
        refine lv_iconst (v := 0) hx hb dX1_open_69 (by decide) ?_
        refine va_calli (va_runV (As := [.int 0]) (rest := []) ⟨hx, hb, hml, hown, hts⟩ (c_X1_answer l D a hO S8 0) (cwV 1 hts gX1_open_X1_answer rfl rfl rfl hdX1_answer ⟨Nat.le_of_ble_eq_true rfl, Nat.le_of_ble_eq_true rfl⟩) (mPreV hK hP) rfl rfl hl.1 rfl (lv_room (Nat.le_of_ble_eq_true rfl)) dX1_open_70 ⟨Nat.zero_le _, Nat.zero_le _⟩) hS (fun q _ h => h) (fun q h => h) (fun r10 S10 t H1 locs ht hvm hw10 hB hz1 hk1 hS => ?_)
        obtain ⟨hP, -⟩ := hB
        rw [ht] at hP
        exact W.iret (v := r10) hx hb hr (fun t ht hW => ⟨⟨r10, S10, rfl, (by simp only [mF_open, hw1, if_neg c2, hw4, if_pos c6, if_neg c7, hw8, hw10]), by rw [ht]; exact hP, va_K.moved hW.alike hK⟩, hS.F ht⟩) hS.2.2 dX1_open_73
      · refine lv_iload_n hx hb dX1_open_53 rfl (lv_at hl 1 rfl) ?_
        refine lv_iload_n hx hb dX1_open_54 rfl (lv_at hl 0 rfl) ?_
        refine lv_icmp_eq (tgt := 61) hx hb dX1_open_55 (by decide) (fun c12 => ?_) (fun c12 => ?_)
        · refine lv_aload_n hx hb dX1_open_61 rfl (lv_at hl 2 rfl) ?_
          refine lv_iconst (v := 3) hx hb dX1_open_62 (by decide) ?_
          refine lv_iload_n hx hb dX1_open_63 rfl (lv_at hl 3 rfl) ?_
          refine lv_iconst (v := 1) hx hb dX1_open_64 (by decide) ?_
          refine va_callv (va_runV (As := [.int 3, .int p1, .int 1]) (rest := []) ⟨hx, hb, hml, hown, hts⟩ (c_X1_put l D a hO S4 3 p1 1 hI vp_k3_5) (cwV 3 hts gX1_open_X1_put rfl rfl rfl hdX1_put ⟨Nat.le_of_ble_eq_true rfl, Nat.le_of_ble_eq_true rfl⟩) (mPreV hK hP) rfl rfl hl.1 rfl (lv_room (Nat.le_of_ble_eq_true rfl)) dX1_open_65 ⟨Nat.zero_le _, Nat.zero_le _⟩) hS (fun q _ h => h) (fun q h => h) (fun S14 t H1 locs ht hvm hw14 hB hz1 hk1 hS => ?_)
          obtain ⟨hP, -⟩ := hB
          rw [ht] at hP
          have hI := mI_put hI hw14
          refine lv_aload_n hx hb dX1_open_68 rfl (lv_at hl 2 rfl) ?_
          refine lv_iconst (v := 0) hx hb dX1_open_69 (by decide) ?_
          refine va_calli (va_runV (As := [.int 0]) (rest := []) ⟨hx, hb, hml, hown, hts⟩ (c_X1_answer l D a hO S14 0) (cwV 1 hts gX1_open_X1_answer rfl rfl rfl hdX1_answer ⟨Nat.le_of_ble_eq_true rfl, Nat.le_of_ble_eq_true rfl⟩) (mPreV hK hP) rfl rfl hl.1 rfl (lv_room (Nat.le_of_ble_eq_true rfl)) dX1_open_70 ⟨Nat.zero_le _, Nat.zero_le _⟩) hS (fun q _ h => h) (fun q h => h) (fun r16 S16 t H1 locs ht hvm hw16 hB hz1 hk1 hS => ?_)
          obtain ⟨hP, -⟩ := hB
          rw [ht] at hP
          exact W.iret (v := r16) hx hb hr (fun t ht hW => ⟨⟨r16, S16, rfl, (by simp only [mF_open, hw1, if_neg c2, hw4, if_pos c6, if_pos c7, if_pos c12, hw14, hw16]), by rw [ht]; exact hP, va_K.moved hW.alike hK⟩, hS.F ht⟩) hS.2.2 dX1_open_73
        · refine lv_bipush (v := (-2)) hx hb dX1_open_58 (by decide) ?_
          exact W.iret (v := (-2)) hx hb hr (fun t ht hW => ⟨⟨(-2), S4, rfl, (by simp only [mF_open, hw1, if_neg c2, hw4, if_pos c6, if_pos c7, if_neg c12]), by rw [ht]; exact hP, va_K.moved hW.alike hK⟩, hS.F ht⟩) hS.2.2 dX1_open_60
    · refine lv_aload_n hx hb dX1_open_33 rfl (lv_at hl 1 rfl) ?_
      refine lv_iconst (v := 1) hx hb dX1_open_34 (by decide) ?_
      refine lv_iload_n hx hb dX1_open_35 rfl (lv_at hl 2 rfl) ?_
      refine lv_iconst (v := 1) hx hb dX1_open_36 (by decide) ?_
      refine lv_iadd hx hb dX1_open_37 ?_
      refine va_calli (va_runV (As := [.int 1, .int (p1 + 1)]) (rest := []) ⟨hx, hb, hml, hown, hts⟩ (c_X1_cell l D a hO S4 1 (p1 + 1) hI vp_k1_5) (cwV 2 hts gX1_open_X1_cell rfl rfl rfl hdX1_cell ⟨Nat.le_of_ble_eq_true rfl, Nat.le_of_ble_eq_true rfl⟩) (mPreV hK hP) rfl rfl hl.1 rfl (lv_room (Nat.le_of_ble_eq_true rfl)) dX1_open_38 ⟨Nat.zero_le _, Nat.zero_le _⟩) hS (fun q _ h => h) (fun q h => h) (fun r19 S19 t H1 locs ht hvm hw19 hB hz1 hk1 hS => ?_)
      obtain ⟨hP, -⟩ := hB
      rw [ht] at hP
      have hI := mI_cell hI hw19
      refine lv_goto (tgt := 45) hx hb dX1_open_41 (by decide) ?_
      refine lv_istore_n (lv' := [(3, .int r19), (2, .int r4), (0, .ref (ma a)), (1, .int p1)]) hx hb dX1_open_45 rfl hl (by decide) rfl (fun ls hl => ?_)
      refine lv_aload_n hx hb dX1_open_46 rfl (lv_at hl 2 rfl) ?_
      refine m_get hx hb hts hu hown hK hP 11 (by decide) hf23 rfl (v := .int (mFa S19)) rfl dX1_open_47 ?_
      refine lv_if_ne (tgt := 61) hx hb dX1_open_50 (by decide) (fun c21 => ?_) (fun c21 => ?_)
      · refine lv_aload_n hx hb dX1_open_61 rfl (lv_at hl 2 rfl) ?_
        refine lv_iconst (v := 3) hx hb dX1_open_62 (by decide) ?_
        refine lv_iload_n hx hb dX1_open_63 rfl (lv_at hl 3 rfl) ?_
        refine lv_iconst (v := 1) hx hb dX1_open_64 (by decide) ?_
        refine va_callv (va_runV (As := [.int 3, .int p1, .int 1]) (rest := []) ⟨hx, hb, hml, hown, hts⟩ (c_X1_put l D a hO S19 3 p1 1 hI vp_k3_5) (cwV 3 hts gX1_open_X1_put rfl rfl rfl hdX1_put ⟨Nat.le_of_ble_eq_true rfl, Nat.le_of_ble_eq_true rfl⟩) (mPreV hK hP) rfl rfl hl.1 rfl (lv_room (Nat.le_of_ble_eq_true rfl)) dX1_open_65 ⟨Nat.zero_le _, Nat.zero_le _⟩) hS (fun q _ h => h) (fun q h => h) (fun S22 t H1 locs ht hvm hw22 hB hz1 hk1 hS => ?_)
        obtain ⟨hP, -⟩ := hB
        rw [ht] at hP
        have hI := mI_put hI hw22
        refine lv_aload_n hx hb dX1_open_68 rfl (lv_at hl 2 rfl) ?_
        refine lv_iconst (v := 0) hx hb dX1_open_69 (by decide) ?_
        refine va_calli (va_runV (As := [.int 0]) (rest := []) ⟨hx, hb, hml, hown, hts⟩ (c_X1_answer l D a hO S22 0) (cwV 1 hts gX1_open_X1_answer rfl rfl rfl hdX1_answer ⟨Nat.le_of_ble_eq_true rfl, Nat.le_of_ble_eq_true rfl⟩) (mPreV hK hP) rfl rfl hl.1 rfl (lv_room (Nat.le_of_ble_eq_true rfl)) dX1_open_70 ⟨Nat.zero_le _, Nat.zero_le _⟩) hS (fun q _ h => h) (fun q h => h) (fun r24 S24 t H1 locs ht hvm hw24 hB hz1 hk1 hS => ?_)
        obtain ⟨hP, -⟩ := hB
        rw [ht] at hP
        exact W.iret (v := r24) hx hb hr (fun t ht hW => ⟨⟨r24, S24, rfl, (by simp only [mF_open, hw1, if_neg c2, hw4, if_neg c6, hw19, if_neg c21, hw22, hw24]), by rw [ht]; exact hP, va_K.moved hW.alike hK⟩, hS.F ht⟩) hS.2.2 dX1_open_73
      · refine lv_iload_n hx hb dX1_open_53 rfl (lv_at hl 1 rfl) ?_
        refine lv_iload_n hx hb dX1_open_54 rfl (lv_at hl 0 rfl) ?_
        refine lv_icmp_eq (tgt := 61) hx hb dX1_open_55 (by decide) (fun c26 => ?_) (fun c26 => ?_)
        · refine lv_aload_n hx hb dX1_open_61 rfl (lv_at hl 2 rfl) ?_
          refine lv_iconst (v := 3) hx hb dX1_open_62 (by decide) ?_
          refine lv_iload_n hx hb dX1_open_63 rfl (lv_at hl 3 rfl) ?_
          refine lv_iconst (v := 1) hx hb dX1_open_64 (by decide) ?_
          refine va_callv (va_runV (As := [.int 3, .int p1, .int 1]) (rest := []) ⟨hx, hb, hml, hown, hts⟩ (c_X1_put l D a hO S19 3 p1 1 hI vp_k3_5) (cwV 3 hts gX1_open_X1_put rfl rfl rfl hdX1_put ⟨Nat.le_of_ble_eq_true rfl, Nat.le_of_ble_eq_true rfl⟩) (mPreV hK hP) rfl rfl hl.1 rfl (lv_room (Nat.le_of_ble_eq_true rfl)) dX1_open_65 ⟨Nat.zero_le _, Nat.zero_le _⟩) hS (fun q _ h => h) (fun q h => h) (fun S27 t H1 locs ht hvm hw27 hB hz1 hk1 hS => ?_)
          obtain ⟨hP, -⟩ := hB
          rw [ht] at hP
          have hI := mI_put hI hw27
          refine lv_aload_n hx hb dX1_open_68 rfl (lv_at hl 2 rfl) ?_
          refine lv_iconst (v := 0) hx hb dX1_open_69 (by decide) ?_
          refine va_calli (va_runV (As := [.int 0]) (rest := []) ⟨hx, hb, hml, hown, hts⟩ (c_X1_answer l D a hO S27 0) (cwV 1 hts gX1_open_X1_answer rfl rfl rfl hdX1_answer ⟨Nat.le_of_ble_eq_true rfl, Nat.le_of_ble_eq_true rfl⟩) (mPreV hK hP) rfl rfl hl.1 rfl (lv_room (Nat.le_of_ble_eq_true rfl)) dX1_open_70 ⟨Nat.zero_le _, Nat.zero_le _⟩) hS (fun q _ h => h) (fun q h => h) (fun r29 S29 t H1 locs ht hvm hw29 hB hz1 hk1 hS => ?_)
          obtain ⟨hP, -⟩ := hB
          rw [ht] at hP
          exact W.iret (v := r29) hx hb hr (fun t ht hW => ⟨⟨r29, S29, rfl, (by simp only [mF_open, hw1, if_neg c2, hw4, if_neg c6, hw19, if_pos c21, if_pos c26, hw27, hw29]), by rw [ht]; exact hP, va_K.moved hW.alike hK⟩, hS.F ht⟩) hS.2.2 dX1_open_73
        · refine lv_bipush (v := (-2)) hx hb dX1_open_58 (by decide) ?_
          exact W.iret (v := (-2)) hx hb hr (fun t ht hW => ⟨⟨(-2), S19, rfl, (by simp only [mF_open, hw1, if_neg c2, hw4, if_neg c6, hw19, if_pos c21, if_neg c26]), by rw [ht]; exact hP, va_K.moved hW.alike hK⟩, hS.F ht⟩) hS.2.2 dX1_open_60
  · refine lv_ldc (v := (-300000)) hx hb hown hk50 dX1_open_8 ?_
    exact W.iret (v := (-300000)) hx hb hr (fun t ht hW => ⟨⟨(-300000), S, rfl, (by simp only [mF_open, hw1, if_pos c2]), by rw [ht]; exact hP, va_K.moved hW.alike hK⟩, hS.F ht⟩) hS.2.2 dX1_open_10
def mF_shut (S : MS) (p1 : Int32) : Int32 × MS := (if (mF_isChamber S p1) = 0 then ((-300000), S) else (let q4 := mF_cell (msFa S 0) 3 p1; (let q6 := mF_put q4.2 3 p1 0; (let q8 := mF_answer q6 q4.1; (q8.1, q8.2)))))
theorem hdX1_shut : yX1_shut.cls = RX1 ∧ yX1_shut.cls ≠ "java/lang/invoke/MethodHandle" ∧ yX1_shut.cls ≠ "java/lang/invoke/VarHandle" ∧ (parseMethodDescriptor yX1_shut.desc).map (fun d => d.parameters.length) = some 1 := by decide +kernel
set_option maxHeartbeats 4000000 in
set_option maxRecDepth 100000 in
theorem c_X1_shut (l : Launch) (D : va_G) (a : MA) (hO : mOk a) (S : MS) (p1 : Int32) (hI : mI S) : Met l yX1_shut wsX1_shut ({ frames := 2, cells := 0, slots := 0, locals := 45 }) (va_Pc [.ref (ma a), .int p1] (mB D a S)) (mQi D a (mF_shut S p1)) 0 0 (mA a) := by
  refine Met.ofW (cc := cX1_shut) (maxL := 3) (ret := (some .int)) (by decide) rfl ?_
  intro p e s m args below meth c s₁ B hml hv
  obtain ⟨rfl, hP, hK⟩ := hv
  have hx := B.exec
  have hb := B.bytes
  have hr := B.returns
  have hts := atoms_spec (ws := wsX1_shut) B.pre
  have hown : s.vm.findClass RX1 = some m.cls := findClass_of_methodNamed B.named
  have hlocks := B.notSynchronized
  have hS : va_S (mA a) s.heap s.heap [] := va_S.rf
  have hP : va_P D vwCl (mW a S) s.heap := hP
  have hu : ∀ w ∈ wsX10, w ∈ wsX1_shut := fun _ h => List.mem_cons_of_mem _ (List.mem_append_right _ h)
  have hf23 := hts (.fieldLink RX1 23 "FlightBooksModel" "fault" "I") (by decide +kernel)
  have hk50 := hts (.constant RX1 50 (-300000)) (by decide +kernel)
  have hl := lv_entry ([.ref (ma a), .int p1]) (n := 3) (Nat.le_of_ble_eq_true rfl)
  rw [lg_entry_eq]
  generalize (lg_sl ([.ref (ma a), .int p1]) ++ List.replicate (3 - (lg_sl ([.ref (ma a), .int p1])).length) Slot.unset).toArray = ls at hl ⊢
  have hl : lv_has ls 3 [(0, .ref (ma a)), (1, .int p1)] := hl
  refine lv_aload_n hx hb dX1_shut_0 rfl (lv_at hl 0 rfl) ?_
  refine lv_iload_n hx hb dX1_shut_1 rfl (lv_at hl 1 rfl) ?_
  refine va_calli (va_runV (As := [.int p1]) (rest := []) ⟨hx, hb, hml, hown, hts⟩ (c_X1_isChamber l D a hO S p1) (cwV 1 hts gX1_shut_X1_isChamber rfl rfl rfl hdX1_isChamber ⟨Nat.le_of_ble_eq_true rfl, Nat.le_of_ble_eq_true rfl⟩) (mPreV hK hP) rfl rfl hl.1 rfl (lv_room (Nat.le_of_ble_eq_true rfl)) dX1_shut_2 ⟨Nat.zero_le _, Nat.zero_le _⟩) hS (fun q _ h => h) (fun q h => h) (fun r1 S1 t H1 locs ht hvm hw1 hB hz1 hk1 hS => ?_)
  obtain ⟨hP, -⟩ := hB
  rw [ht] at hP
  obtain ⟨hw1, hSe1⟩ := hw1
  rw [hSe1] at hP
  refine lv_if_ne (tgt := 11) hx hb dX1_shut_5 (by decide) (fun c2 => ?_) (fun c2 => ?_)
  · have hn3 := me_cham hI hw1 c2
    refine lv_aload_n hx hb dX1_shut_11 rfl (lv_at hl 0 rfl) ?_
    refine lv_iconst (v := 0) hx hb dX1_shut_12 (by decide) ?_
    refine m_puti hx hb hts hu hown hO hK hP hS 11 (by decide) hf23 rfl rfl (by decide +kernel) (msFa S) (fun _ => rfl) (fun _ => rfl) dX1_shut_13 (fun H locs hP hS => ?_)
    have hI := mI_fault 0 hI
    refine lv_aload_n hx hb dX1_shut_16 rfl (lv_at hl 0 rfl) ?_
    refine lv_iconst (v := 3) hx hb dX1_shut_17 (by decide) ?_
    refine lv_iload_n hx hb dX1_shut_18 rfl (lv_at hl 1 rfl) ?_
    refine va_calli (va_runV (As := [.int 3, .int p1]) (rest := []) ⟨hx, hb, hml, hown, hts⟩ (c_X1_cell l D a hO (msFa S 0) 3 p1 hI vp_k3_5) (cwV 2 hts gX1_shut_X1_cell rfl rfl rfl hdX1_cell ⟨Nat.le_of_ble_eq_true rfl, Nat.le_of_ble_eq_true rfl⟩) (mPreV hK hP) rfl rfl hl.1 rfl (lv_room (Nat.le_of_ble_eq_true rfl)) dX1_shut_19 ⟨Nat.zero_le _, Nat.zero_le _⟩) hS (fun q _ h => h) (fun q h => h) (fun r4 S4 t H1 locs ht hvm hw4 hB hz1 hk1 hS => ?_)
    obtain ⟨hP, -⟩ := hB
    rw [ht] at hP
    have hI := mI_cell hI hw4
    refine lv_istore_n (lv' := [(2, .int r4), (0, .ref (ma a)), (1, .int p1)]) hx hb dX1_shut_22 rfl hl (by decide) rfl (fun ls hl => ?_)
    refine lv_aload_n hx hb dX1_shut_23 rfl (lv_at hl 1 rfl) ?_
    refine lv_iconst (v := 3) hx hb dX1_shut_24 (by decide) ?_
    refine lv_iload_n hx hb dX1_shut_25 rfl (lv_at hl 2 rfl) ?_
    refine lv_iconst (v := 0) hx hb dX1_shut_26 (by decide) ?_
    refine va_callv (va_runV (As := [.int 3, .int p1, .int 0]) (rest := []) ⟨hx, hb, hml, hown, hts⟩ (c_X1_put l D a hO S4 3 p1 0 hI vp_k3_5) (cwV 3 hts gX1_shut_X1_put rfl rfl rfl hdX1_put ⟨Nat.le_of_ble_eq_true rfl, Nat.le_of_ble_eq_true rfl⟩) (mPreV hK hP) rfl rfl hl.1 rfl (lv_room (Nat.le_of_ble_eq_true rfl)) dX1_shut_27 ⟨Nat.zero_le _, Nat.zero_le _⟩) hS (fun q _ h => h) (fun q h => h) (fun S6 t H1 locs ht hvm hw6 hB hz1 hk1 hS => ?_)
    obtain ⟨hP, -⟩ := hB
    rw [ht] at hP
    have hI := mI_put hI hw6
    refine lv_aload_n hx hb dX1_shut_30 rfl (lv_at hl 1 rfl) ?_
    refine lv_iload_n hx hb dX1_shut_31 rfl (lv_at hl 0 rfl) ?_
    refine va_calli (va_runV (As := [.int r4]) (rest := []) ⟨hx, hb, hml, hown, hts⟩ (c_X1_answer l D a hO S6 r4) (cwV 1 hts gX1_shut_X1_answer rfl rfl rfl hdX1_answer ⟨Nat.le_of_ble_eq_true rfl, Nat.le_of_ble_eq_true rfl⟩) (mPreV hK hP) rfl rfl hl.1 rfl (lv_room (Nat.le_of_ble_eq_true rfl)) dX1_shut_32 ⟨Nat.zero_le _, Nat.zero_le _⟩) hS (fun q _ h => h) (fun q h => h) (fun r8 S8 t H1 locs ht hvm hw8 hB hz1 hk1 hS => ?_)
    obtain ⟨hP, -⟩ := hB
    rw [ht] at hP
    exact W.iret (v := r8) hx hb hr (fun t ht hW => ⟨⟨r8, S8, rfl, (by simp only [mF_shut, hw1, if_neg c2, hw4, hw6, hw8]), by rw [ht]; exact hP, va_K.moved hW.alike hK⟩, hS.F ht⟩) hS.2.2 dX1_shut_35
  · refine lv_ldc (v := (-300000)) hx hb hown hk50 dX1_shut_8 ?_
    exact W.iret (v := (-300000)) hx hb hr (fun t ht hW => ⟨⟨(-300000), S, rfl, (by simp only [mF_shut, hw1, if_pos c2]), by rw [ht]; exact hP, va_K.moved hW.alike hK⟩, hS.F ht⟩) hS.2.2 dX1_shut_10
def mF_enter (S : MS) (p1 p2 : Int32) : Int32 × MS := (if (p1 &&& 65535) = 0 then ((-300000), S) else (if p2 < 0 then ((-300000), S) else (if p2 ≤ 16000 then (let q4 := mF_cell (msFa S 0) 0 0; (if (mFa q4.2) = 0 then (if q4.1 = 0 then (let q33 := mF_cell q4.2 1 0; (if (mFa q33.2) = 0 then (if p2 ≤ (8 * q33.1) then (let q47 := mF_put q33.2 2 0 p2; (let q49 := mF_put q47 0 0 p1; (let q51 := mF_more q49 4 0 1; (let q53 := mF_cell q51 4 0; (let q55 := mF_answer q53.2 q53.1; (q55.1, q55.2)))))) else ((-3), q33.2)) else (let q36 := mF_put q33.2 2 0 p2; (let q38 := mF_put q36 0 0 p1; (let q40 := mF_more q38 4 0 1; (let q42 := mF_cell q40 4 0; (let q44 := mF_answer q42.2 q42.1; (q44.1, q44.2)))))))) else ((-2), q4.2)) else (let q7 := mF_cell q4.2 1 0; (if (mFa q7.2) = 0 then (if p2 ≤ (8 * q7.1) then (let q21 := mF_put q7.2 2 0 p2; (let q23 := mF_put q21 0 0 p1; (let q25 := mF_more q23 4 0 1; (let q27 := mF_cell q25 4 0; (let q29 := mF_answer q27.2 q27.1; (q29.1, q29.2)))))) else ((-3), q7.2)) else (let q10 := mF_put q7.2 2 0 p2; (let q12 := mF_put q10 0 0 p1; (let q14 := mF_more q12 4 0 1; (let q16 := mF_cell q14 4 0; (let q18 := mF_answer q16.2 q16.1; (q18.1, q18.2)))))))))) else ((-300000), S))))
theorem hdX1_enter : yX1_enter.cls = RX1 ∧ yX1_enter.cls ≠ "java/lang/invoke/MethodHandle" ∧ yX1_enter.cls ≠ "java/lang/invoke/VarHandle" ∧ (parseMethodDescriptor yX1_enter.desc).map (fun d => d.parameters.length) = some 2 := by decide +kernel
set_option maxHeartbeats 4000000 in
set_option maxRecDepth 100000 in
theorem c_X1_enter (l : Launch) (D : va_G) (a : MA) (hO : mOk a) (S : MS) (p1 p2 : Int32) (hI : mI S) : Met l yX1_enter wsX1_enter ({ frames := 2, cells := 0, slots := 0, locals := 45 }) (va_Pc [.ref (ma a), .int p1, .int p2] (mB D a S)) (mQi D a (mF_enter S p1 p2)) 0 0 (mA a) := by
  refine Met.ofW (cc := cX1_enter) (maxL := 6) (ret := (some .int)) (by decide) rfl ?_
  intro p e s m args below meth c s₁ B hml hv
  obtain ⟨rfl, hP, hK⟩ := hv
  have hx := B.exec
  have hb := B.bytes
  have hr := B.returns
  have hts := atoms_spec (ws := wsX1_enter) B.pre
  have hown : s.vm.findClass RX1 = some m.cls := findClass_of_methodNamed B.named
  have hlocks := B.notSynchronized
  have hS : va_S (mA a) s.heap s.heap [] := va_S.rf
  have hP : va_P D vwCl (mW a S) s.heap := hP
  have hu : ∀ w ∈ wsX10, w ∈ wsX1_enter := fun _ h => List.mem_cons_of_mem _ (List.mem_append_right _ h)
  have hk32 := hts (.constant RX1 32 (65535)) (by decide +kernel)
  have hk50 := hts (.constant RX1 50 (-300000)) (by decide +kernel)
  have hf23 := hts (.fieldLink RX1 23 "FlightBooksModel" "fault" "I") (by decide +kernel)
  have hl := lv_entry ([.ref (ma a), .int p1, .int p2]) (n := 6) (Nat.le_of_ble_eq_true rfl)
  rw [lg_entry_eq]
  generalize (lg_sl ([.ref (ma a), .int p1, .int p2]) ++ List.replicate (6 - (lg_sl ([.ref (ma a), .int p1, .int p2])).length) Slot.unset).toArray = ls at hl ⊢
  have hl : lv_has ls 6 [(0, .ref (ma a)), (1, .int p1), (2, .int p2)] := hl
  refine lv_iload_n hx hb dX1_enter_0 rfl (lv_at hl 1 rfl) ?_
  refine lv_ldc (v := 65535) hx hb hown hk32 dX1_enter_1 ?_
  refine lv_iand hx hb dX1_enter_3 ?_
  refine lv_if_eq (tgt := 18) hx hb dX1_enter_4 (by decide) (fun c1 => ?_) (fun c1 => ?_)
  · refine lv_ldc (v := (-300000)) hx hb hown hk50 dX1_enter_18 ?_
    exact W.iret (v := (-300000)) hx hb hr (fun t ht hW => ⟨⟨(-300000), S, rfl, (by simp only [mF_enter, if_pos c1]), by rw [ht]; exact hP, va_K.moved hW.alike hK⟩, hS.F ht⟩) hS.2.2 dX1_enter_20
  · refine lv_iload_n hx hb dX1_enter_7 rfl (lv_at hl 2 rfl) ?_
    refine lv_if_lt (tgt := 18) hx hb dX1_enter_8 (by decide) (fun c2 => ?_) (fun c2 => ?_)
    · refine lv_ldc (v := (-300000)) hx hb hown hk50 dX1_enter_18 ?_
      exact W.iret (v := (-300000)) hx hb hr (fun t ht hW => ⟨⟨(-300000), S, rfl, (by simp only [mF_enter, if_neg c1, if_pos c2]), by rw [ht]; exact hP, va_K.moved hW.alike hK⟩, hS.F ht⟩) hS.2.2 dX1_enter_20
    · refine lv_iload_n hx hb dX1_enter_11 rfl (lv_at hl 2 rfl) ?_
      refine lv_sipush (v := 16000) hx hb dX1_enter_12 (by decide) ?_
      refine lv_icmp_le (tgt := 21) hx hb dX1_enter_15 (by decide) (fun c3 => ?_) (fun c3 => ?_)
      · refine lv_aload_n hx hb dX1_enter_21 rfl (lv_at hl 0 rfl) ?_
        refine lv_iconst (v := 0) hx hb dX1_enter_22 (by decide) ?_
        refine m_puti hx hb hts hu hown hO hK hP hS 11 (by decide) hf23 rfl rfl (by decide +kernel) (msFa S) (fun _ => rfl) (fun _ => rfl) dX1_enter_23 (fun H locs hP hS => ?_)
        have hI := mI_fault 0 hI
        refine lv_aload_n hx hb dX1_enter_26 rfl (lv_at hl 0 rfl) ?_
        refine lv_iconst (v := 0) hx hb dX1_enter_27 (by decide) ?_
        refine lv_iconst (v := 0) hx hb dX1_enter_28 (by decide) ?_
        refine va_calli (va_runV (As := [.int 0, .int 0]) (rest := []) ⟨hx, hb, hml, hown, hts⟩ (c_X1_cell l D a hO (msFa S 0) 0 0 hI vp_k0_5) (cwV 2 hts gX1_enter_X1_cell rfl rfl rfl hdX1_cell ⟨Nat.le_of_ble_eq_true rfl, Nat.le_of_ble_eq_true rfl⟩) (mPreV hK hP) rfl rfl hl.1 rfl (lv_room (Nat.le_of_ble_eq_true rfl)) dX1_enter_29 ⟨Nat.zero_le _, Nat.zero_le _⟩) hS (fun q _ h => h) (fun q h => h) (fun r4 S4 t H1 locs ht hvm hw4 hB hz1 hk1 hS => ?_)
        obtain ⟨hP, -⟩ := hB
        rw [ht] at hP
        have hI := mI_cell hI hw4
        refine lv_istore_n (lv' := [(3, .int r4), (0, .ref (ma a)), (1, .int p1), (2, .int p2)]) hx hb dX1_enter_32 rfl hl (by decide) rfl (fun ls hl => ?_)
        refine lv_aload_n hx hb dX1_enter_33 rfl (lv_at hl 1 rfl) ?_
        refine m_get hx hb hts hu hown hK hP 11 (by decide) hf23 rfl (v := .int (mFa S4)) rfl dX1_enter_34 ?_
        refine lv_if_ne (tgt := 47) hx hb dX1_enter_37 (by decide) (fun c6 => ?_) (fun c6 => ?_)
        · refine lv_aload_n hx hb dX1_enter_47 rfl (lv_at hl 1 rfl) ?_
          refine lv_iconst (v := 1) hx hb dX1_enter_48 (by decide) ?_
          refine lv_iconst (v := 0) hx hb dX1_enter_49 (by decide) ?_
          refine va_calli (va_runV (As := [.int 1, .int 0]) (rest := []) ⟨hx, hb, hml, hown, hts⟩ (c_X1_cell l D a hO S4 1 0 hI vp_k1_5) (cwV 2 hts gX1_enter_X1_cell rfl rfl rfl hdX1_cell ⟨Nat.le_of_ble_eq_true rfl, Nat.le_of_ble_eq_true rfl⟩) (mPreV hK hP) rfl rfl hl.1 rfl (lv_room (Nat.le_of_ble_eq_true rfl)) dX1_enter_50 ⟨Nat.zero_le _, Nat.zero_le _⟩) hS (fun q _ h => h) (fun q h => h) (fun r7 S7 t H1 locs ht hvm hw7 hB hz1 hk1 hS => ?_)
          obtain ⟨hP, -⟩ := hB
          rw [ht] at hP
          have hI := mI_cell hI hw7
          refine lv_istore (lv' := [(4, .int r7), (3, .int r4), (0, .ref (ma a)), (1, .int p1), (2, .int p2)]) hx hb dX1_enter_53 hl (by decide) rfl (fun ls hl => ?_)
          refine lv_aload_n hx hb dX1_enter_55 rfl (lv_at hl 2 rfl) ?_
          refine m_get hx hb hts hu hown hK hP 11 (by decide) hf23 rfl (v := .int (mFa S7)) rfl dX1_enter_56 ?_
          refine lv_if_ne (tgt := 74) hx hb dX1_enter_59 (by decide) (fun c9 => ?_) (fun c9 => ?_)
          · refine lv_aload_n hx hb dX1_enter_74 rfl (lv_at hl 2 rfl) ?_
            refine lv_iconst (v := 2) hx hb dX1_enter_75 (by decide) ?_
            refine lv_iconst (v := 0) hx hb dX1_enter_76 (by decide) ?_
            refine lv_iload_n hx hb dX1_enter_77 rfl (lv_at hl 4 rfl) ?_
            refine va_callv (va_runV (As := [.int 2, .int 0, .int p2]) (rest := []) ⟨hx, hb, hml, hown, hts⟩ (c_X1_put l D a hO S7 2 0 p2 hI vp_k2_5) (cwV 3 hts gX1_enter_X1_put rfl rfl rfl hdX1_put ⟨Nat.le_of_ble_eq_true rfl, Nat.le_of_ble_eq_true rfl⟩) (mPreV hK hP) rfl rfl hl.1 rfl (lv_room (Nat.le_of_ble_eq_true rfl)) dX1_enter_78 ⟨Nat.zero_le _, Nat.zero_le _⟩) hS (fun q _ h => h) (fun q h => h) (fun S10 t H1 locs ht hvm hw10 hB hz1 hk1 hS => ?_)
            obtain ⟨hP, -⟩ := hB
            rw [ht] at hP
            have hI := mI_put hI hw10
            refine lv_aload_n hx hb dX1_enter_81 rfl (lv_at hl 2 rfl) ?_
            refine lv_iconst (v := 0) hx hb dX1_enter_82 (by decide) ?_
            refine lv_iconst (v := 0) hx hb dX1_enter_83 (by decide) ?_
            refine lv_iload_n hx hb dX1_enter_84 rfl (lv_at hl 3 rfl) ?_
            refine va_callv (va_runV (As := [.int 0, .int 0, .int p1]) (rest := []) ⟨hx, hb, hml, hown, hts⟩ (c_X1_put l D a hO S10 0 0 p1 hI vp_k0_5) (cwV 3 hts gX1_enter_X1_put rfl rfl rfl hdX1_put ⟨Nat.le_of_ble_eq_true rfl, Nat.le_of_ble_eq_true rfl⟩) (mPreV hK hP) rfl rfl hl.1 rfl (lv_room (Nat.le_of_ble_eq_true rfl)) dX1_enter_85 ⟨Nat.zero_le _, Nat.zero_le _⟩) hS (fun q _ h => h) (fun q h => h) (fun S12 t H1 locs ht hvm hw12 hB hz1 hk1 hS => ?_)
            obtain ⟨hP, -⟩ := hB
            rw [ht] at hP
            have hI := mI_put hI hw12
            refine lv_aload_n hx hb dX1_enter_88 rfl (lv_at hl 2 rfl) ?_
            refine lv_iconst (v := 4) hx hb dX1_enter_89 (by decide) ?_
            refine lv_iconst (v := 0) hx hb dX1_enter_90 (by decide) ?_
            refine lv_iconst (v := 1) hx hb dX1_enter_91 (by decide) ?_
            refine va_callv (va_runV (As := [.int 4, .int 0, .int 1]) (rest := []) ⟨hx, hb, hml, hown, hts⟩ (c_X1_more l D a hO S12 4 0 1 hI vp_k4_5) (cwV 3 hts gX1_enter_X1_more rfl rfl rfl hdX1_more ⟨Nat.le_of_ble_eq_true rfl, Nat.le_of_ble_eq_true rfl⟩) (mPreV hK hP) rfl rfl hl.1 rfl (lv_room (Nat.le_of_ble_eq_true rfl)) dX1_enter_92 ⟨Nat.zero_le _, Nat.zero_le _⟩) hS (fun q _ h => h) (fun q h => h) (fun S14 t H1 locs ht hvm hw14 hB hz1 hk1 hS => ?_)
            obtain ⟨hP, -⟩ := hB
            rw [ht] at hP
            have hI := mI_more hI hw14
            refine lv_aload_n hx hb dX1_enter_95 rfl (lv_at hl 2 rfl) ?_
            refine lv_iconst (v := 4) hx hb dX1_enter_96 (by decide) ?_
            refine lv_iconst (v := 0) hx hb dX1_enter_97 (by decide) ?_
            refine va_calli (va_runV (As := [.int 4, .int 0]) (rest := []) ⟨hx, hb, hml, hown, hts⟩ (c_X1_cell l D a hO S14 4 0 hI vp_k4_5) (cwV 2 hts gX1_enter_X1_cell rfl rfl rfl hdX1_cell ⟨Nat.le_of_ble_eq_true rfl, Nat.le_of_ble_eq_true rfl⟩) (mPreV hK hP) rfl rfl hl.1 rfl (lv_room (Nat.le_of_ble_eq_true rfl)) dX1_enter_98 ⟨Nat.zero_le _, Nat.zero_le _⟩) hS (fun q _ h => h) (fun q h => h) (fun r16 S16 t H1 locs ht hvm hw16 hB hz1 hk1 hS => ?_)
            obtain ⟨hP, -⟩ := hB
            rw [ht] at hP
            have hI := mI_cell hI hw16
            refine lv_istore (lv' := [(5, .int r16), (4, .int r7), (3, .int r4), (0, .ref (ma a)), (1, .int p1), (2, .int p2)]) hx hb dX1_enter_101 hl (by decide) rfl (fun ls hl => ?_)
            refine lv_aload_n hx hb dX1_enter_103 rfl (lv_at hl 3 rfl) ?_
            refine lv_iload hx hb dX1_enter_104 (lv_at hl 0 rfl) ?_
            refine va_calli (va_runV (As := [.int r16]) (rest := []) ⟨hx, hb, hml, hown, hts⟩ (c_X1_answer l D a hO S16 r16) (cwV 1 hts gX1_enter_X1_answer rfl rfl rfl hdX1_answer ⟨Nat.le_of_ble_eq_true rfl, Nat.le_of_ble_eq_true rfl⟩) (mPreV hK hP) rfl rfl hl.1 rfl (lv_room (Nat.le_of_ble_eq_true rfl)) dX1_enter_106 ⟨Nat.zero_le _, Nat.zero_le _⟩) hS (fun q _ h => h) (fun q h => h) (fun r18 S18 t H1 locs ht hvm hw18 hB hz1 hk1 hS => ?_)
            obtain ⟨hP, -⟩ := hB
            rw [ht] at hP
            exact W.iret (v := r18) hx hb hr (fun t ht hW => ⟨⟨r18, S18, rfl, (by simp only [mF_enter, if_neg c1, if_neg c2, if_pos c3, hw4, if_neg c6, hw7, if_neg c9, hw10, hw12, hw14, hw16, hw18]), by rw [ht]; exact hP, va_K.moved hW.alike hK⟩, hS.F ht⟩) hS.2.2 dX1_enter_109
          · refine lv_iload_n hx hb dX1_enter_62 rfl (lv_at hl 4 rfl) ?_
            refine lv_bipush (v := 8) hx hb dX1_enter_63 (by decide) ?_
            refine lv_iload hx hb dX1_enter_65 (lv_at hl 0 rfl) ?_
            refine lv_imul hx hb dX1_enter_67 ?_
            refine lv_icmp_le (tgt := 74) hx hb dX1_enter_68 (by decide) (fun c20 => ?_) (fun c20 => ?_)
            · refine lv_aload_n hx hb dX1_enter_74 rfl (lv_at hl 2 rfl) ?_
              refine lv_iconst (v := 2) hx hb dX1_enter_75 (by decide) ?_
              refine lv_iconst (v := 0) hx hb dX1_enter_76 (by decide) ?_
              refine lv_iload_n hx hb dX1_enter_77 rfl (lv_at hl 4 rfl) ?_
              refine va_callv (va_runV (As := [.int 2, .int 0, .int p2]) (rest := []) ⟨hx, hb, hml, hown, hts⟩ (c_X1_put l D a hO S7 2 0 p2 hI vp_k2_5) (cwV 3 hts gX1_enter_X1_put rfl rfl rfl hdX1_put ⟨Nat.le_of_ble_eq_true rfl, Nat.le_of_ble_eq_true rfl⟩) (mPreV hK hP) rfl rfl hl.1 rfl (lv_room (Nat.le_of_ble_eq_true rfl)) dX1_enter_78 ⟨Nat.zero_le _, Nat.zero_le _⟩) hS (fun q _ h => h) (fun q h => h) (fun S21 t H1 locs ht hvm hw21 hB hz1 hk1 hS => ?_)
              obtain ⟨hP, -⟩ := hB
              rw [ht] at hP
              have hI := mI_put hI hw21
              refine lv_aload_n hx hb dX1_enter_81 rfl (lv_at hl 2 rfl) ?_
              refine lv_iconst (v := 0) hx hb dX1_enter_82 (by decide) ?_
              refine lv_iconst (v := 0) hx hb dX1_enter_83 (by decide) ?_
              refine lv_iload_n hx hb dX1_enter_84 rfl (lv_at hl 3 rfl) ?_
              refine va_callv (va_runV (As := [.int 0, .int 0, .int p1]) (rest := []) ⟨hx, hb, hml, hown, hts⟩ (c_X1_put l D a hO S21 0 0 p1 hI vp_k0_5) (cwV 3 hts gX1_enter_X1_put rfl rfl rfl hdX1_put ⟨Nat.le_of_ble_eq_true rfl, Nat.le_of_ble_eq_true rfl⟩) (mPreV hK hP) rfl rfl hl.1 rfl (lv_room (Nat.le_of_ble_eq_true rfl)) dX1_enter_85 ⟨Nat.zero_le _, Nat.zero_le _⟩) hS (fun q _ h => h) (fun q h => h) (fun S23 t H1 locs ht hvm hw23 hB hz1 hk1 hS => ?_)
              obtain ⟨hP, -⟩ := hB
              rw [ht] at hP
              have hI := mI_put hI hw23
              refine lv_aload_n hx hb dX1_enter_88 rfl (lv_at hl 2 rfl) ?_
              refine lv_iconst (v := 4) hx hb dX1_enter_89 (by decide) ?_
              refine lv_iconst (v := 0) hx hb dX1_enter_90 (by decide) ?_
              refine lv_iconst (v := 1) hx hb dX1_enter_91 (by decide) ?_
              refine va_callv (va_runV (As := [.int 4, .int 0, .int 1]) (rest := []) ⟨hx, hb, hml, hown, hts⟩ (c_X1_more l D a hO S23 4 0 1 hI vp_k4_5) (cwV 3 hts gX1_enter_X1_more rfl rfl rfl hdX1_more ⟨Nat.le_of_ble_eq_true rfl, Nat.le_of_ble_eq_true rfl⟩) (mPreV hK hP) rfl rfl hl.1 rfl (lv_room (Nat.le_of_ble_eq_true rfl)) dX1_enter_92 ⟨Nat.zero_le _, Nat.zero_le _⟩) hS (fun q _ h => h) (fun q h => h) (fun S25 t H1 locs ht hvm hw25 hB hz1 hk1 hS => ?_)
              obtain ⟨hP, -⟩ := hB
              rw [ht] at hP
              have hI := mI_more hI hw25
              refine lv_aload_n hx hb dX1_enter_95 rfl (lv_at hl 2 rfl) ?_
              refine lv_iconst (v := 4) hx hb dX1_enter_96 (by decide) ?_
              refine lv_iconst (v := 0) hx hb dX1_enter_97 (by decide) ?_
              refine va_calli (va_runV (As := [.int 4, .int 0]) (rest := []) ⟨hx, hb, hml, hown, hts⟩ (c_X1_cell l D a hO S25 4 0 hI vp_k4_5) (cwV 2 hts gX1_enter_X1_cell rfl rfl rfl hdX1_cell ⟨Nat.le_of_ble_eq_true rfl, Nat.le_of_ble_eq_true rfl⟩) (mPreV hK hP) rfl rfl hl.1 rfl (lv_room (Nat.le_of_ble_eq_true rfl)) dX1_enter_98 ⟨Nat.zero_le _, Nat.zero_le _⟩) hS (fun q _ h => h) (fun q h => h) (fun r27 S27 t H1 locs ht hvm hw27 hB hz1 hk1 hS => ?_)
              obtain ⟨hP, -⟩ := hB
              rw [ht] at hP
              have hI := mI_cell hI hw27
              refine lv_istore (lv' := [(5, .int r27), (4, .int r7), (3, .int r4), (0, .ref (ma a)), (1, .int p1), (2, .int p2)]) hx hb dX1_enter_101 hl (by decide) rfl (fun ls hl => ?_)
              refine lv_aload_n hx hb dX1_enter_103 rfl (lv_at hl 3 rfl) ?_
              refine lv_iload hx hb dX1_enter_104 (lv_at hl 0 rfl) ?_
              refine va_calli (va_runV (As := [.int r27]) (rest := []) ⟨hx, hb, hml, hown, hts⟩ (c_X1_answer l D a hO S27 r27) (cwV 1 hts gX1_enter_X1_answer rfl rfl rfl hdX1_answer ⟨Nat.le_of_ble_eq_true rfl, Nat.le_of_ble_eq_true rfl⟩) (mPreV hK hP) rfl rfl hl.1 rfl (lv_room (Nat.le_of_ble_eq_true rfl)) dX1_enter_106 ⟨Nat.zero_le _, Nat.zero_le _⟩) hS (fun q _ h => h) (fun q h => h) (fun r29 S29 t H1 locs ht hvm hw29 hB hz1 hk1 hS => ?_)
              obtain ⟨hP, -⟩ := hB
              rw [ht] at hP
              exact W.iret (v := r29) hx hb hr (fun t ht hW => ⟨⟨r29, S29, rfl, (by simp only [mF_enter, if_neg c1, if_neg c2, if_pos c3, hw4, if_neg c6, hw7, if_pos c9, if_pos c20, hw21, hw23, hw25, hw27, hw29]), by rw [ht]; exact hP, va_K.moved hW.alike hK⟩, hS.F ht⟩) hS.2.2 dX1_enter_109
            · refine lv_bipush (v := (-3)) hx hb dX1_enter_71 (by decide) ?_
              exact W.iret (v := (-3)) hx hb hr (fun t ht hW => ⟨⟨(-3), S7, rfl, (by simp only [mF_enter, if_neg c1, if_neg c2, if_pos c3, hw4, if_neg c6, hw7, if_pos c9, if_neg c20]), by rw [ht]; exact hP, va_K.moved hW.alike hK⟩, hS.F ht⟩) hS.2.2 dX1_enter_73
        · refine lv_iload_n hx hb dX1_enter_40 rfl (lv_at hl 0 rfl) ?_
          refine lv_if_eq (tgt := 47) hx hb dX1_enter_41 (by decide) (fun c31 => ?_) (fun c31 => ?_)
          · refine lv_aload_n hx hb dX1_enter_47 rfl (lv_at hl 1 rfl) ?_
            refine lv_iconst (v := 1) hx hb dX1_enter_48 (by decide) ?_
            refine lv_iconst (v := 0) hx hb dX1_enter_49 (by decide) ?_
            refine va_calli (va_runV (As := [.int 1, .int 0]) (rest := []) ⟨hx, hb, hml, hown, hts⟩ (c_X1_cell l D a hO S4 1 0 hI vp_k1_5) (cwV 2 hts gX1_enter_X1_cell rfl rfl rfl hdX1_cell ⟨Nat.le_of_ble_eq_true rfl, Nat.le_of_ble_eq_true rfl⟩) (mPreV hK hP) rfl rfl hl.1 rfl (lv_room (Nat.le_of_ble_eq_true rfl)) dX1_enter_50 ⟨Nat.zero_le _, Nat.zero_le _⟩) hS (fun q _ h => h) (fun q h => h) (fun r33 S33 t H1 locs ht hvm hw33 hB hz1 hk1 hS => ?_)
            obtain ⟨hP, -⟩ := hB
            rw [ht] at hP
            have hI := mI_cell hI hw33
            refine lv_istore (lv' := [(4, .int r33), (3, .int r4), (0, .ref (ma a)), (1, .int p1), (2, .int p2)]) hx hb dX1_enter_53 hl (by decide) rfl (fun ls hl => ?_)
            refine lv_aload_n hx hb dX1_enter_55 rfl (lv_at hl 2 rfl) ?_
            refine m_get hx hb hts hu hown hK hP 11 (by decide) hf23 rfl (v := .int (mFa S33)) rfl dX1_enter_56 ?_
            refine lv_if_ne (tgt := 74) hx hb dX1_enter_59 (by decide) (fun c35 => ?_) (fun c35 => ?_)
            · refine lv_aload_n hx hb dX1_enter_74 rfl (lv_at hl 2 rfl) ?_
              refine lv_iconst (v := 2) hx hb dX1_enter_75 (by decide) ?_
              refine lv_iconst (v := 0) hx hb dX1_enter_76 (by decide) ?_
              refine lv_iload_n hx hb dX1_enter_77 rfl (lv_at hl 4 rfl) ?_
              refine va_callv (va_runV (As := [.int 2, .int 0, .int p2]) (rest := []) ⟨hx, hb, hml, hown, hts⟩ (c_X1_put l D a hO S33 2 0 p2 hI vp_k2_5) (cwV 3 hts gX1_enter_X1_put rfl rfl rfl hdX1_put ⟨Nat.le_of_ble_eq_true rfl, Nat.le_of_ble_eq_true rfl⟩) (mPreV hK hP) rfl rfl hl.1 rfl (lv_room (Nat.le_of_ble_eq_true rfl)) dX1_enter_78 ⟨Nat.zero_le _, Nat.zero_le _⟩) hS (fun q _ h => h) (fun q h => h) (fun S36 t H1 locs ht hvm hw36 hB hz1 hk1 hS => ?_)
              obtain ⟨hP, -⟩ := hB
              rw [ht] at hP
              have hI := mI_put hI hw36
              refine lv_aload_n hx hb dX1_enter_81 rfl (lv_at hl 2 rfl) ?_
              refine lv_iconst (v := 0) hx hb dX1_enter_82 (by decide) ?_
              refine lv_iconst (v := 0) hx hb dX1_enter_83 (by decide) ?_
              refine lv_iload_n hx hb dX1_enter_84 rfl (lv_at hl 3 rfl) ?_
              refine va_callv (va_runV (As := [.int 0, .int 0, .int p1]) (rest := []) ⟨hx, hb, hml, hown, hts⟩ (c_X1_put l D a hO S36 0 0 p1 hI vp_k0_5) (cwV 3 hts gX1_enter_X1_put rfl rfl rfl hdX1_put ⟨Nat.le_of_ble_eq_true rfl, Nat.le_of_ble_eq_true rfl⟩) (mPreV hK hP) rfl rfl hl.1 rfl (lv_room (Nat.le_of_ble_eq_true rfl)) dX1_enter_85 ⟨Nat.zero_le _, Nat.zero_le _⟩) hS (fun q _ h => h) (fun q h => h) (fun S38 t H1 locs ht hvm hw38 hB hz1 hk1 hS => ?_)
              obtain ⟨hP, -⟩ := hB
              rw [ht] at hP
              have hI := mI_put hI hw38
              refine lv_aload_n hx hb dX1_enter_88 rfl (lv_at hl 2 rfl) ?_
              refine lv_iconst (v := 4) hx hb dX1_enter_89 (by decide) ?_
              refine lv_iconst (v := 0) hx hb dX1_enter_90 (by decide) ?_
              refine lv_iconst (v := 1) hx hb dX1_enter_91 (by decide) ?_
              refine va_callv (va_runV (As := [.int 4, .int 0, .int 1]) (rest := []) ⟨hx, hb, hml, hown, hts⟩ (c_X1_more l D a hO S38 4 0 1 hI vp_k4_5) (cwV 3 hts gX1_enter_X1_more rfl rfl rfl hdX1_more ⟨Nat.le_of_ble_eq_true rfl, Nat.le_of_ble_eq_true rfl⟩) (mPreV hK hP) rfl rfl hl.1 rfl (lv_room (Nat.le_of_ble_eq_true rfl)) dX1_enter_92 ⟨Nat.zero_le _, Nat.zero_le _⟩) hS (fun q _ h => h) (fun q h => h) (fun S40 t H1 locs ht hvm hw40 hB hz1 hk1 hS => ?_)
              obtain ⟨hP, -⟩ := hB
              rw [ht] at hP
              have hI := mI_more hI hw40
              refine lv_aload_n hx hb dX1_enter_95 rfl (lv_at hl 2 rfl) ?_
              refine lv_iconst (v := 4) hx hb dX1_enter_96 (by decide) ?_
              refine lv_iconst (v := 0) hx hb dX1_enter_97 (by decide) ?_
              refine va_calli (va_runV (As := [.int 4, .int 0]) (rest := []) ⟨hx, hb, hml, hown, hts⟩ (c_X1_cell l D a hO S40 4 0 hI vp_k4_5) (cwV 2 hts gX1_enter_X1_cell rfl rfl rfl hdX1_cell ⟨Nat.le_of_ble_eq_true rfl, Nat.le_of_ble_eq_true rfl⟩) (mPreV hK hP) rfl rfl hl.1 rfl (lv_room (Nat.le_of_ble_eq_true rfl)) dX1_enter_98 ⟨Nat.zero_le _, Nat.zero_le _⟩) hS (fun q _ h => h) (fun q h => h) (fun r42 S42 t H1 locs ht hvm hw42 hB hz1 hk1 hS => ?_)
              obtain ⟨hP, -⟩ := hB
              rw [ht] at hP
              have hI := mI_cell hI hw42
              refine lv_istore (lv' := [(5, .int r42), (4, .int r33), (3, .int r4), (0, .ref (ma a)), (1, .int p1), (2, .int p2)]) hx hb dX1_enter_101 hl (by decide) rfl (fun ls hl => ?_)
              refine lv_aload_n hx hb dX1_enter_103 rfl (lv_at hl 3 rfl) ?_
              refine lv_iload hx hb dX1_enter_104 (lv_at hl 0 rfl) ?_
              refine va_calli (va_runV (As := [.int r42]) (rest := []) ⟨hx, hb, hml, hown, hts⟩ (c_X1_answer l D a hO S42 r42) (cwV 1 hts gX1_enter_X1_answer rfl rfl rfl hdX1_answer ⟨Nat.le_of_ble_eq_true rfl, Nat.le_of_ble_eq_true rfl⟩) (mPreV hK hP) rfl rfl hl.1 rfl (lv_room (Nat.le_of_ble_eq_true rfl)) dX1_enter_106 ⟨Nat.zero_le _, Nat.zero_le _⟩) hS (fun q _ h => h) (fun q h => h) (fun r44 S44 t H1 locs ht hvm hw44 hB hz1 hk1 hS => ?_)
              obtain ⟨hP, -⟩ := hB
              rw [ht] at hP
              exact W.iret (v := r44) hx hb hr (fun t ht hW => ⟨⟨r44, S44, rfl, (by simp only [mF_enter, if_neg c1, if_neg c2, if_pos c3, hw4, if_pos c6, if_pos c31, hw33, if_neg c35, hw36, hw38, hw40, hw42, hw44]), by rw [ht]; exact hP, va_K.moved hW.alike hK⟩, hS.F ht⟩) hS.2.2 dX1_enter_109
            · refine lv_iload_n hx hb dX1_enter_62 rfl (lv_at hl 4 rfl) ?_
              refine lv_bipush (v := 8) hx hb dX1_enter_63 (by decide) ?_
              refine lv_iload hx hb dX1_enter_65 (lv_at hl 0 rfl) ?_
              refine lv_imul hx hb dX1_enter_67 ?_
              refine lv_icmp_le (tgt := 74) hx hb dX1_enter_68 (by decide) (fun c46 => ?_) (fun c46 => ?_)
              · refine lv_aload_n hx hb dX1_enter_74 rfl (lv_at hl 2 rfl) ?_
                refine lv_iconst (v := 2) hx hb dX1_enter_75 (by decide) ?_
                refine lv_iconst (v := 0) hx hb dX1_enter_76 (by decide) ?_
                refine lv_iload_n hx hb dX1_enter_77 rfl (lv_at hl 4 rfl) ?_
                refine va_callv (va_runV (As := [.int 2, .int 0, .int p2]) (rest := []) ⟨hx, hb, hml, hown, hts⟩ (c_X1_put l D a hO S33 2 0 p2 hI vp_k2_5) (cwV 3 hts gX1_enter_X1_put rfl rfl rfl hdX1_put ⟨Nat.le_of_ble_eq_true rfl, Nat.le_of_ble_eq_true rfl⟩) (mPreV hK hP) rfl rfl hl.1 rfl (lv_room (Nat.le_of_ble_eq_true rfl)) dX1_enter_78 ⟨Nat.zero_le _, Nat.zero_le _⟩) hS (fun q _ h => h) (fun q h => h) (fun S47 t H1 locs ht hvm hw47 hB hz1 hk1 hS => ?_)
                obtain ⟨hP, -⟩ := hB
                rw [ht] at hP
                have hI := mI_put hI hw47
                refine lv_aload_n hx hb dX1_enter_81 rfl (lv_at hl 2 rfl) ?_
                refine lv_iconst (v := 0) hx hb dX1_enter_82 (by decide) ?_
                refine lv_iconst (v := 0) hx hb dX1_enter_83 (by decide) ?_
                refine lv_iload_n hx hb dX1_enter_84 rfl (lv_at hl 3 rfl) ?_
                refine va_callv (va_runV (As := [.int 0, .int 0, .int p1]) (rest := []) ⟨hx, hb, hml, hown, hts⟩ (c_X1_put l D a hO S47 0 0 p1 hI vp_k0_5) (cwV 3 hts gX1_enter_X1_put rfl rfl rfl hdX1_put ⟨Nat.le_of_ble_eq_true rfl, Nat.le_of_ble_eq_true rfl⟩) (mPreV hK hP) rfl rfl hl.1 rfl (lv_room (Nat.le_of_ble_eq_true rfl)) dX1_enter_85 ⟨Nat.zero_le _, Nat.zero_le _⟩) hS (fun q _ h => h) (fun q h => h) (fun S49 t H1 locs ht hvm hw49 hB hz1 hk1 hS => ?_)
                obtain ⟨hP, -⟩ := hB
                rw [ht] at hP
                have hI := mI_put hI hw49
                refine lv_aload_n hx hb dX1_enter_88 rfl (lv_at hl 2 rfl) ?_
                refine lv_iconst (v := 4) hx hb dX1_enter_89 (by decide) ?_
                refine lv_iconst (v := 0) hx hb dX1_enter_90 (by decide) ?_
                refine lv_iconst (v := 1) hx hb dX1_enter_91 (by decide) ?_
                refine va_callv (va_runV (As := [.int 4, .int 0, .int 1]) (rest := []) ⟨hx, hb, hml, hown, hts⟩ (c_X1_more l D a hO S49 4 0 1 hI vp_k4_5) (cwV 3 hts gX1_enter_X1_more rfl rfl rfl hdX1_more ⟨Nat.le_of_ble_eq_true rfl, Nat.le_of_ble_eq_true rfl⟩) (mPreV hK hP) rfl rfl hl.1 rfl (lv_room (Nat.le_of_ble_eq_true rfl)) dX1_enter_92 ⟨Nat.zero_le _, Nat.zero_le _⟩) hS (fun q _ h => h) (fun q h => h) (fun S51 t H1 locs ht hvm hw51 hB hz1 hk1 hS => ?_)
                obtain ⟨hP, -⟩ := hB
                rw [ht] at hP
                have hI := mI_more hI hw51
                refine lv_aload_n hx hb dX1_enter_95 rfl (lv_at hl 2 rfl) ?_
                refine lv_iconst (v := 4) hx hb dX1_enter_96 (by decide) ?_
                refine lv_iconst (v := 0) hx hb dX1_enter_97 (by decide) ?_
                refine va_calli (va_runV (As := [.int 4, .int 0]) (rest := []) ⟨hx, hb, hml, hown, hts⟩ (c_X1_cell l D a hO S51 4 0 hI vp_k4_5) (cwV 2 hts gX1_enter_X1_cell rfl rfl rfl hdX1_cell ⟨Nat.le_of_ble_eq_true rfl, Nat.le_of_ble_eq_true rfl⟩) (mPreV hK hP) rfl rfl hl.1 rfl (lv_room (Nat.le_of_ble_eq_true rfl)) dX1_enter_98 ⟨Nat.zero_le _, Nat.zero_le _⟩) hS (fun q _ h => h) (fun q h => h) (fun r53 S53 t H1 locs ht hvm hw53 hB hz1 hk1 hS => ?_)
                obtain ⟨hP, -⟩ := hB
                rw [ht] at hP
                have hI := mI_cell hI hw53
                refine lv_istore (lv' := [(5, .int r53), (4, .int r33), (3, .int r4), (0, .ref (ma a)), (1, .int p1), (2, .int p2)]) hx hb dX1_enter_101 hl (by decide) rfl (fun ls hl => ?_)
                refine lv_aload_n hx hb dX1_enter_103 rfl (lv_at hl 3 rfl) ?_
                refine lv_iload hx hb dX1_enter_104 (lv_at hl 0 rfl) ?_
                refine va_calli (va_runV (As := [.int r53]) (rest := []) ⟨hx, hb, hml, hown, hts⟩ (c_X1_answer l D a hO S53 r53) (cwV 1 hts gX1_enter_X1_answer rfl rfl rfl hdX1_answer ⟨Nat.le_of_ble_eq_true rfl, Nat.le_of_ble_eq_true rfl⟩) (mPreV hK hP) rfl rfl hl.1 rfl (lv_room (Nat.le_of_ble_eq_true rfl)) dX1_enter_106 ⟨Nat.zero_le _, Nat.zero_le _⟩) hS (fun q _ h => h) (fun q h => h) (fun r55 S55 t H1 locs ht hvm hw55 hB hz1 hk1 hS => ?_)
                obtain ⟨hP, -⟩ := hB
                rw [ht] at hP
                exact W.iret (v := r55) hx hb hr (fun t ht hW => ⟨⟨r55, S55, rfl, (by simp only [mF_enter, if_neg c1, if_neg c2, if_pos c3, hw4, if_pos c6, if_pos c31, hw33, if_pos c35, if_pos c46, hw47, hw49, hw51, hw53, hw55]), by rw [ht]; exact hP, va_K.moved hW.alike hK⟩, hS.F ht⟩) hS.2.2 dX1_enter_109
              · refine lv_bipush (v := (-3)) hx hb dX1_enter_71 (by decide) ?_
                exact W.iret (v := (-3)) hx hb hr (fun t ht hW => ⟨⟨(-3), S33, rfl, (by simp only [mF_enter, if_neg c1, if_neg c2, if_pos c3, hw4, if_pos c6, if_pos c31, hw33, if_pos c35, if_neg c46]), by rw [ht]; exact hP, va_K.moved hW.alike hK⟩, hS.F ht⟩) hS.2.2 dX1_enter_73
          · refine lv_bipush (v := (-2)) hx hb dX1_enter_44 (by decide) ?_
            exact W.iret (v := (-2)) hx hb hr (fun t ht hW => ⟨⟨(-2), S4, rfl, (by simp only [mF_enter, if_neg c1, if_neg c2, if_pos c3, hw4, if_pos c6, if_neg c31]), by rw [ht]; exact hP, va_K.moved hW.alike hK⟩, hS.F ht⟩) hS.2.2 dX1_enter_46
      · refine lv_ldc (v := (-300000)) hx hb hown hk50 dX1_enter_18 ?_
        exact W.iret (v := (-300000)) hx hb hr (fun t ht hW => ⟨⟨(-300000), S, rfl, (by simp only [mF_enter, if_neg c1, if_neg c2, if_neg c3]), by rw [ht]; exact hP, va_K.moved hW.alike hK⟩, hS.F ht⟩) hS.2.2 dX1_enter_20
def mF_moved (S : MS) (p1 p2 : Int32) : Int32 × MS := (let q1 := mF_cell S 2 p1; (let q3 := mF_put q1.2 2 (p1 + 1) q1.1; (let q5 := mF_put q3 0 (p1 + 1) p2; (let q7 := mF_more q5 4 (p1 + 1) 1; (q1.1, q7)))))
theorem hdX1_moved : yX1_moved.cls = RX1 ∧ yX1_moved.cls ≠ "java/lang/invoke/MethodHandle" ∧ yX1_moved.cls ≠ "java/lang/invoke/VarHandle" ∧ (parseMethodDescriptor yX1_moved.desc).map (fun d => d.parameters.length) = some 2 := by decide +kernel
set_option maxHeartbeats 4000000 in
set_option maxRecDepth 100000 in
theorem c_X1_moved (l : Launch) (D : va_G) (a : MA) (hO : mOk a) (S : MS) (p1 p2 : Int32) (hI : mI S) : Met l yX1_moved wsX1_moved ({ frames := 2, cells := 0, slots := 0, locals := 45 }) (va_Pc [.ref (ma a), .int p1, .int p2] (mB D a S)) (mQi D a (mF_moved S p1 p2)) 0 0 (mA a) := by
  refine Met.ofW (cc := cX1_moved) (maxL := 4) (ret := (some .int)) (by decide) rfl ?_
  intro p e s m args below meth c s₁ B hml hv
  obtain ⟨rfl, hP, hK⟩ := hv
  have hx := B.exec
  have hb := B.bytes
  have hr := B.returns
  have hts := atoms_spec (ws := wsX1_moved) B.pre
  have hown : s.vm.findClass RX1 = some m.cls := findClass_of_methodNamed B.named
  have hlocks := B.notSynchronized
  have hS : va_S (mA a) s.heap s.heap [] := va_S.rf
  have hP : va_P D vwCl (mW a S) s.heap := hP
  have hl := lv_entry ([.ref (ma a), .int p1, .int p2]) (n := 4) (Nat.le_of_ble_eq_true rfl)
  rw [lg_entry_eq]
  generalize (lg_sl ([.ref (ma a), .int p1, .int p2]) ++ List.replicate (4 - (lg_sl ([.ref (ma a), .int p1, .int p2])).length) Slot.unset).toArray = ls at hl ⊢
  have hl : lv_has ls 4 [(0, .ref (ma a)), (1, .int p1), (2, .int p2)] := hl
  refine lv_aload_n hx hb dX1_moved_0 rfl (lv_at hl 0 rfl) ?_
  refine lv_iconst (v := 2) hx hb dX1_moved_1 (by decide) ?_
  refine lv_iload_n hx hb dX1_moved_2 rfl (lv_at hl 1 rfl) ?_
  refine va_calli (va_runV (As := [.int 2, .int p1]) (rest := []) ⟨hx, hb, hml, hown, hts⟩ (c_X1_cell l D a hO S 2 p1 hI vp_k2_5) (cwV 2 hts gX1_moved_X1_cell rfl rfl rfl hdX1_cell ⟨Nat.le_of_ble_eq_true rfl, Nat.le_of_ble_eq_true rfl⟩) (mPreV hK hP) rfl rfl hl.1 rfl (lv_room (Nat.le_of_ble_eq_true rfl)) dX1_moved_3 ⟨Nat.zero_le _, Nat.zero_le _⟩) hS (fun q _ h => h) (fun q h => h) (fun r1 S1 t H1 locs ht hvm hw1 hB hz1 hk1 hS => ?_)
  obtain ⟨hP, -⟩ := hB
  rw [ht] at hP
  have hI := mI_cell hI hw1
  refine lv_istore_n (lv' := [(3, .int r1), (0, .ref (ma a)), (1, .int p1), (2, .int p2)]) hx hb dX1_moved_6 rfl hl (by decide) rfl (fun ls hl => ?_)
  refine lv_aload_n hx hb dX1_moved_7 rfl (lv_at hl 1 rfl) ?_
  refine lv_iconst (v := 2) hx hb dX1_moved_8 (by decide) ?_
  refine lv_iload_n hx hb dX1_moved_9 rfl (lv_at hl 2 rfl) ?_
  refine lv_iconst (v := 1) hx hb dX1_moved_10 (by decide) ?_
  refine lv_iadd hx hb dX1_moved_11 ?_
  refine lv_iload_n hx hb dX1_moved_12 rfl (lv_at hl 0 rfl) ?_
  refine va_callv (va_runV (As := [.int 2, .int (p1 + 1), .int r1]) (rest := []) ⟨hx, hb, hml, hown, hts⟩ (c_X1_put l D a hO S1 2 (p1 + 1) r1 hI vp_k2_5) (cwV 3 hts gX1_moved_X1_put rfl rfl rfl hdX1_put ⟨Nat.le_of_ble_eq_true rfl, Nat.le_of_ble_eq_true rfl⟩) (mPreV hK hP) rfl rfl hl.1 rfl (lv_room (Nat.le_of_ble_eq_true rfl)) dX1_moved_13 ⟨Nat.zero_le _, Nat.zero_le _⟩) hS (fun q _ h => h) (fun q h => h) (fun S3 t H1 locs ht hvm hw3 hB hz1 hk1 hS => ?_)
  obtain ⟨hP, -⟩ := hB
  rw [ht] at hP
  have hI := mI_put hI hw3
  refine lv_aload_n hx hb dX1_moved_16 rfl (lv_at hl 1 rfl) ?_
  refine lv_iconst (v := 0) hx hb dX1_moved_17 (by decide) ?_
  refine lv_iload_n hx hb dX1_moved_18 rfl (lv_at hl 2 rfl) ?_
  refine lv_iconst (v := 1) hx hb dX1_moved_19 (by decide) ?_
  refine lv_iadd hx hb dX1_moved_20 ?_
  refine lv_iload_n hx hb dX1_moved_21 rfl (lv_at hl 3 rfl) ?_
  refine va_callv (va_runV (As := [.int 0, .int (p1 + 1), .int p2]) (rest := []) ⟨hx, hb, hml, hown, hts⟩ (c_X1_put l D a hO S3 0 (p1 + 1) p2 hI vp_k0_5) (cwV 3 hts gX1_moved_X1_put rfl rfl rfl hdX1_put ⟨Nat.le_of_ble_eq_true rfl, Nat.le_of_ble_eq_true rfl⟩) (mPreV hK hP) rfl rfl hl.1 rfl (lv_room (Nat.le_of_ble_eq_true rfl)) dX1_moved_22 ⟨Nat.zero_le _, Nat.zero_le _⟩) hS (fun q _ h => h) (fun q h => h) (fun S5 t H1 locs ht hvm hw5 hB hz1 hk1 hS => ?_)
  obtain ⟨hP, -⟩ := hB
  rw [ht] at hP
  have hI := mI_put hI hw5
  refine lv_aload_n hx hb dX1_moved_25 rfl (lv_at hl 1 rfl) ?_
  refine lv_iconst (v := 4) hx hb dX1_moved_26 (by decide) ?_
  refine lv_iload_n hx hb dX1_moved_27 rfl (lv_at hl 2 rfl) ?_
  refine lv_iconst (v := 1) hx hb dX1_moved_28 (by decide) ?_
  refine lv_iadd hx hb dX1_moved_29 ?_
  refine lv_iconst (v := 1) hx hb dX1_moved_30 (by decide) ?_
  refine va_callv (va_runV (As := [.int 4, .int (p1 + 1), .int 1]) (rest := []) ⟨hx, hb, hml, hown, hts⟩ (c_X1_more l D a hO S5 4 (p1 + 1) 1 hI vp_k4_5) (cwV 3 hts gX1_moved_X1_more rfl rfl rfl hdX1_more ⟨Nat.le_of_ble_eq_true rfl, Nat.le_of_ble_eq_true rfl⟩) (mPreV hK hP) rfl rfl hl.1 rfl (lv_room (Nat.le_of_ble_eq_true rfl)) dX1_moved_31 ⟨Nat.zero_le _, Nat.zero_le _⟩) hS (fun q _ h => h) (fun q h => h) (fun S7 t H1 locs ht hvm hw7 hB hz1 hk1 hS => ?_)
  obtain ⟨hP, -⟩ := hB
  rw [ht] at hP
  have hI := mI_more hI hw7
  refine lv_iload_n hx hb dX1_moved_34 rfl (lv_at hl 0 rfl) ?_
  exact W.iret (v := r1) hx hb hr (fun t ht hW => ⟨⟨r1, S7, rfl, (by simp only [mF_moved, hw1, hw3, hw5, hw7]), by rw [ht]; exact hP, va_K.moved hW.alike hK⟩, hS.F ht⟩) hS.2.2 dX1_moved_35
theorem mI_moved {S S1 : MS} {b i r : Int32} (hI : mI S) (h : mF_moved S b i = (r, S1)) : mI S1 := by
  have e : S1 = (mF_moved S b i).2 := by rw [h]
  rw [e]
  simp only [mF_moved]
  exact mI_more2 _ _ _ (mI_put2 _ _ _ (mI_put2 _ _ _ (mI_cell2 _ _ hI)))
