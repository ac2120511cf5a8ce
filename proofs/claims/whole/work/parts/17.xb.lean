def xF_sluice (S : XS) (p1 p2 : Int32) : Int32 × XS := (if (xF_isChamber S p1) = 0 then ((-300000), S) else (let q4 := xF_endsAtLine S 1 p1; (if q4.1 = 0 then (let q8 := xF_put q4.2 1 p1 ((xh q4.2 1 p1) - p2); (if (xF_isLast q8 p1) = 0 then (let q14 := xF_endsAtLine q8 1 (p1 + 1); (if q14.1 = 0 then (let q18 := xF_put q14.2 1 (p1 + 1) ((xh q14.2 1 (p1 + 1)) + p2); ((xh q18 1 p1), q18)) else ((xLf q14.2), q14.2))) else ((xh q8 1 p1), q8))) else ((xLf q4.2), q4.2))))
theorem hdX0_sluice : yX0_sluice.cls = RX0 ∧ yX0_sluice.cls ≠ "java/lang/invoke/MethodHandle" ∧ yX0_sluice.cls ≠ "java/lang/invoke/VarHandle" ∧ (parseMethodDescriptor yX0_sluice.desc).map (fun d => d.parameters.length) = some 2 := by decide +kernel
set_option maxHeartbeats 4000000 in
set_option maxRecDepth 100000 in
theorem c_X0_sluice (l : Launch) (D : va_G) (a : XA) (hO : xOk a) (S : XS) (p1 p2 : Int32) (hI : xI S) : Met l yX0_sluice wsX0_sluice ({ frames := 4, cells := 0, slots := 0, locals := 86 }) (va_Pc [.ref (xa a), .int p1, .int p2] (xB D a S)) (xQi D a (xF_sluice S p1 p2)) 0 0 (xA a) := by
  refine Met.ofW (cc := cX0_sluice) (maxL := 3) (ret := (some .int)) (by decide) rfl ?_
  intro p e s m args below meth c s₁ B hml hv
  obtain ⟨rfl, hP, hK⟩ := hv
  have hx := B.exec
  have hb := B.bytes
  have hr := B.returns
  have hts := atoms_spec (ws := wsX0_sluice) B.pre
  have hown : s.vm.findClass RX0 = some m.cls := findClass_of_methodNamed B.named
  have hlocks := B.notSynchronized
  have hS : va_S (xA a) s.heap s.heap [] := va_S.rf
  have hP : va_P D vwCl (xW a S) s.heap := hP
  have hu : ∀ w ∈ wsX00, w ∈ wsX0_sluice := fun _ h => List.mem_cons_of_mem _ (List.mem_append_right _ h)
  have hf15 := hts (.fieldLink RX0 15 "FlightBooks" "held" "[[I") (by decide +kernel)
  have hf37 := hts (.fieldLink RX0 37 "FlightBooks" "latestFault" "I") (by decide +kernel)
  have hk57 := hts (.constant RX0 57 (-300000)) (by decide +kernel)
  have hl := lv_entry ([.ref (xa a), .int p1, .int p2]) (n := 3) (Nat.le_of_ble_eq_true rfl)
  rw [lg_entry_eq]
  generalize (lg_sl ([.ref (xa a), .int p1, .int p2]) ++ List.replicate (3 - (lg_sl ([.ref (xa a), .int p1, .int p2])).length) Slot.unset).toArray = ls at hl ⊢
  have hl : lv_has ls 3 [(0, .ref (xa a)), (1, .int p1), (2, .int p2)] := hl
  refine lv_aload_n hx hb dX0_sluice_0 rfl (lv_at hl 0 rfl) ?_
  refine lv_iload_n hx hb dX0_sluice_1 rfl (lv_at hl 1 rfl) ?_
  refine va_calli (va_runV (As := [.int p1]) (rest := []) ⟨hx, hb, hml, hown, hts⟩ (c_X0_isChamber l D a hO S p1) (cwV 1 hts gX0_sluice_X0_isChamber rfl rfl rfl hdX0_isChamber ⟨Nat.le_of_ble_eq_true rfl, Nat.le_of_ble_eq_true rfl⟩) (xPreV hK hP) rfl rfl hl.1 rfl (lv_room (Nat.le_of_ble_eq_true rfl)) dX0_sluice_2 ⟨Nat.zero_le _, Nat.zero_le _⟩) hS (fun q _ h => h) (fun q h => h) (fun r1 S1 t H1 locs ht hvm hw1 hB hz1 hk1 hS => ?_)
  obtain ⟨hP, -⟩ := hB
  rw [ht] at hP
  obtain ⟨hw1, hSe1⟩ := hw1
  rw [hSe1] at hP
  refine lv_if_ne (tgt := 11) hx hb dX0_sluice_5 (by decide) (fun c2 => ?_) (fun c2 => ?_)
  · have hn3 := xe_cham hI hw1 c2
    refine lv_aload_n hx hb dX0_sluice_11 rfl (lv_at hl 0 rfl) ?_
    refine lv_iconst (v := 1) hx hb dX0_sluice_12 (by decide) ?_
    refine lv_iload_n hx hb dX0_sluice_13 rfl (lv_at hl 1 rfl) ?_
    refine va_calli (va_runV (As := [.int 1, .int p1]) (rest := []) ⟨hx, hb, hml, hown, hts⟩ (c_X0_endsAtLine l D a hO S 1 p1 hI vp_k1_5) (cwV 2 hts gX0_sluice_X0_endsAtLine rfl rfl rfl hdX0_endsAtLine ⟨Nat.le_of_ble_eq_true rfl, Nat.le_of_ble_eq_true rfl⟩) (xPreV hK hP) rfl rfl hl.1 rfl (lv_room (Nat.le_of_ble_eq_true rfl)) dX0_sluice_14 ⟨Nat.zero_le _, Nat.zero_le _⟩) hS (fun q _ h => h) (fun q h => h) (fun r4 S4 t H1 locs ht hvm hw4 hB hz1 hk1 hS => ?_)
    obtain ⟨hP, -⟩ := hB
    rw [ht] at hP
    refine lv_if_eq (tgt := 25) hx hb dX0_sluice_17 (by decide) (fun c6 => ?_) (fun c6 => ?_)
    · obtain ⟨hn7, hs7⟩ := xe_endsAtLine hI vp_k1_5 hw4 c6
      subst hs7
      refine lv_aload_n hx hb dX0_sluice_25 rfl (lv_at hl 0 rfl) ?_
      refine lv_iconst (v := 1) hx hb dX0_sluice_26 (by decide) ?_
      refine lv_iload_n hx hb dX0_sluice_27 rfl (lv_at hl 1 rfl) ?_
      refine lv_aload_n hx hb dX0_sluice_28 rfl (lv_at hl 0 rfl) ?_
      refine x_get hx hb hts hu hown hK hP 2 (by decide) hf15 rfl (v := .ref (xah a)) rfl dX0_sluice_29 ?_
      refine lv_iconst (v := 1) hx hb dX0_sluice_32 (by decide) ?_
      refine x_aldh hx hb hK hP vp_k1_5 dX0_sluice_33 ?_
      refine lv_iload_n hx hb dX0_sluice_34 rfl (lv_at hl 1 rfl) ?_
      refine x_ldh hx hb hK hP vp_k1_5 hn7 dX0_sluice_35 ?_
      refine lv_iload_n hx hb dX0_sluice_36 rfl (lv_at hl 2 rfl) ?_
      refine lv_isub hx hb dX0_sluice_37 ?_
      refine va_callv (va_runV (As := [.int 1, .int p1, .int ((xh S 1 p1) - p2)]) (rest := []) ⟨hx, hb, hml, hown, hts⟩ (c_X0_put l D a hO S 1 p1 ((xh S 1 p1) - p2) vp_k1_5 hn7) (cwV 3 hts gX0_sluice_X0_put rfl rfl rfl hdX0_put ⟨Nat.le_of_ble_eq_true rfl, Nat.le_of_ble_eq_true rfl⟩) (xPreV hK hP) rfl rfl hl.1 rfl (lv_room (Nat.le_of_ble_eq_true rfl)) dX0_sluice_38 ⟨Nat.zero_le _, Nat.zero_le _⟩) hS (fun q _ h => h) (fun q h => h) (fun S8 t H1 locs ht hvm hw8 hB hz1 hk1 hS => ?_)
      obtain ⟨hP, -⟩ := hB
      rw [ht] at hP
      have hI := xI_put hI hw8
      refine lv_aload_n hx hb dX0_sluice_41 rfl (lv_at hl 0 rfl) ?_
      refine lv_iload_n hx hb dX0_sluice_42 rfl (lv_at hl 1 rfl) ?_
      refine va_calli (va_runV (As := [.int p1]) (rest := []) ⟨hx, hb, hml, hown, hts⟩ (c_X0_isLast l D a hO S8 p1) (cwV 1 hts gX0_sluice_X0_isLast rfl rfl rfl hdX0_isLast ⟨Nat.le_of_ble_eq_true rfl, Nat.le_of_ble_eq_true rfl⟩) (xPreV hK hP) rfl rfl hl.1 rfl (lv_room (Nat.le_of_ble_eq_true rfl)) dX0_sluice_43 ⟨Nat.zero_le _, Nat.zero_le _⟩) hS (fun q _ h => h) (fun q h => h) (fun r10 S10 t H1 locs ht hvm hw10 hB hz1 hk1 hS => ?_)
      obtain ⟨hP, -⟩ := hB
      rw [ht] at hP
      obtain ⟨hw10, hSe10⟩ := hw10
      rw [hSe10] at hP
      refine lv_if_ne (tgt := 85) hx hb dX0_sluice_46 (by decide) (fun c11 => ?_) (fun c11 => ?_)
      · refine lv_aload_n hx hb dX0_sluice_85 rfl (lv_at hl 0 rfl) ?_
        refine x_get hx hb hts hu hown hK hP 2 (by decide) hf15 rfl (v := .ref (xah a)) rfl dX0_sluice_86 ?_
        refine lv_iconst (v := 1) hx hb dX0_sluice_89 (by decide) ?_
        refine x_aldh hx hb hK hP vp_k1_5 dX0_sluice_90 ?_
        refine lv_iload_n hx hb dX0_sluice_91 rfl (lv_at hl 1 rfl) ?_
        refine x_ldh hx hb hK hP vp_k1_5 hn7 dX0_sluice_92 ?_
        exact W.iret (v := (xh S8 1 p1)) hx hb hr (fun t ht hW => ⟨⟨(xh S8 1 p1), S8, rfl, (by simp only [xF_sluice, hw1, if_neg c2, hw4, if_pos c6, hw8, hw10, if_neg c11]), by rw [ht]; exact hP, va_K.moved hW.alike hK⟩, hS.F ht⟩) hS.2.2 dX0_sluice_93
      · refine lv_aload_n hx hb dX0_sluice_49 rfl (lv_at hl 0 rfl) ?_
        refine lv_iconst (v := 1) hx hb dX0_sluice_50 (by decide) ?_
        refine lv_iload_n hx hb dX0_sluice_51 rfl (lv_at hl 1 rfl) ?_
        refine lv_iconst (v := 1) hx hb dX0_sluice_52 (by decide) ?_
        refine lv_iadd hx hb dX0_sluice_53 ?_
        refine va_calli (va_runV (As := [.int 1, .int (p1 + 1)]) (rest := []) ⟨hx, hb, hml, hown, hts⟩ (c_X0_endsAtLine l D a hO S8 1 (p1 + 1) hI vp_k1_5) (cwV 2 hts gX0_sluice_X0_endsAtLine rfl rfl rfl hdX0_endsAtLine ⟨Nat.le_of_ble_eq_true rfl, Nat.le_of_ble_eq_true rfl⟩) (xPreV hK hP) rfl rfl hl.1 rfl (lv_room (Nat.le_of_ble_eq_true rfl)) dX0_sluice_54 ⟨Nat.zero_le _, Nat.zero_le _⟩) hS (fun q _ h => h) (fun q h => h) (fun r14 S14 t H1 locs ht hvm hw14 hB hz1 hk1 hS => ?_)
        obtain ⟨hP, -⟩ := hB
        rw [ht] at hP
        refine lv_if_eq (tgt := 65) hx hb dX0_sluice_57 (by decide) (fun c16 => ?_) (fun c16 => ?_)
        · obtain ⟨hn17, hs17⟩ := xe_endsAtLine hI vp_k1_5 hw14 c16
          subst hs17
          refine lv_aload_n hx hb dX0_sluice_65 rfl (lv_at hl 0 rfl) ?_
          refine lv_iconst (v := 1) hx hb dX0_sluice_66 (by decide) ?_
          refine lv_iload_n hx hb dX0_sluice_67 rfl (lv_at hl 1 rfl) ?_
          refine lv_iconst (v := 1) hx hb dX0_sluice_68 (by decide) ?_
          refine lv_iadd hx hb dX0_sluice_69 ?_
          refine lv_aload_n hx hb dX0_sluice_70 rfl (lv_at hl 0 rfl) ?_
          refine x_get hx hb hts hu hown hK hP 2 (by decide) hf15 rfl (v := .ref (xah a)) rfl dX0_sluice_71 ?_
          refine lv_iconst (v := 1) hx hb dX0_sluice_74 (by decide) ?_
          refine x_aldh hx hb hK hP vp_k1_5 dX0_sluice_75 ?_
          refine lv_iload_n hx hb dX0_sluice_76 rfl (lv_at hl 1 rfl) ?_
          refine lv_iconst (v := 1) hx hb dX0_sluice_77 (by decide) ?_
          refine lv_iadd hx hb dX0_sluice_78 ?_
          refine x_ldh hx hb hK hP vp_k1_5 hn17 dX0_sluice_79 ?_
          refine lv_iload_n hx hb dX0_sluice_80 rfl (lv_at hl 2 rfl) ?_
          refine lv_iadd hx hb dX0_sluice_81 ?_
          refine va_callv (va_runV (As := [.int 1, .int (p1 + 1), .int ((xh S8 1 (p1 + 1)) + p2)]) (rest := []) ⟨hx, hb, hml, hown, hts⟩ (c_X0_put l D a hO S8 1 (p1 + 1) ((xh S8 1 (p1 + 1)) + p2) vp_k1_5 hn17) (cwV 3 hts gX0_sluice_X0_put rfl rfl rfl hdX0_put ⟨Nat.le_of_ble_eq_true rfl, Nat.le_of_ble_eq_true rfl⟩) (xPreV hK hP) rfl rfl hl.1 rfl (lv_room (Nat.le_of_ble_eq_true rfl)) dX0_sluice_82 ⟨Nat.zero_le _, Nat.zero_le _⟩) hS (fun q _ h => h) (fun q h => h) (fun S18 t H1 locs ht hvm hw18 hB hz1 hk1 hS => ?_)
          obtain ⟨hP, -⟩ := hB
          rw [ht] at hP
          have hI := xI_put hI hw18
          refine lv_aload_n hx hb dX0_sluice_85 rfl (lv_at hl 0 rfl) ?_
          refine x_get hx hb hts hu hown hK hP 2 (by decide) hf15 rfl (v := .ref (xah a)) rfl dX0_sluice_86 ?_
          refine lv_iconst (v := 1) hx hb dX0_sluice_89 (by decide) ?_
          refine x_aldh hx hb hK hP vp_k1_5 dX0_sluice_90 ?_
          refine lv_iload_n hx hb dX0_sluice_91 rfl (lv_at hl 1 rfl) ?_
          refine x_ldh hx hb hK hP vp_k1_5 hn7 dX0_sluice_92 ?_
          exact W.iret (v := (xh S18 1 p1)) hx hb hr (fun t ht hW => ⟨⟨(xh S18 1 p1), S18, rfl, (by simp only [xF_sluice, hw1, if_neg c2, hw4, if_pos c6, hw8, hw10, if_pos c11, hw14, if_pos c16, hw18]), by rw [ht]; exact hP, va_K.moved hW.alike hK⟩, hS.F ht⟩) hS.2.2 dX0_sluice_93
        · refine lv_aload_n hx hb dX0_sluice_60 rfl (lv_at hl 0 rfl) ?_
          refine x_get hx hb hts hu hown hK hP 9 (by decide) hf37 rfl (v := .int (xLf S14)) rfl dX0_sluice_61 ?_
          exact W.iret (v := (xLf S14)) hx hb hr (fun t ht hW => ⟨⟨(xLf S14), S14, rfl, (by simp only [xF_sluice, hw1, if_neg c2, hw4, if_pos c6, hw8, hw10, if_pos c11, hw14, if_neg c16]), by rw [ht]; exact hP, va_K.moved hW.alike hK⟩, hS.F ht⟩) hS.2.2 dX0_sluice_64
    · refine lv_aload_n hx hb dX0_sluice_20 rfl (lv_at hl 0 rfl) ?_
      refine x_get hx hb hts hu hown hK hP 9 (by decide) hf37 rfl (v := .int (xLf S4)) rfl dX0_sluice_21 ?_
      exact W.iret (v := (xLf S4)) hx hb hr (fun t ht hW => ⟨⟨(xLf S4), S4, rfl, (by simp only [xF_sluice, hw1, if_neg c2, hw4, if_neg c6]), by rw [ht]; exact hP, va_K.moved hW.alike hK⟩, hS.F ht⟩) hS.2.2 dX0_sluice_24
  · refine lv_ldc (v := (-300000)) hx hb hown hk57 dX0_sluice_8 ?_
    exact W.iret (v := (-300000)) hx hb hr (fun t ht hW => ⟨⟨(-300000), S, rfl, (by simp only [xF_sluice, hw1, if_pos c2]), by rw [ht]; exact hP, va_K.moved hW.alike hK⟩, hS.F ht⟩) hS.2.2 dX0_sluice_10
def xF_open (S : XS) (p1 : Int32) : Int32 × XS := (if (xF_isChamber S p1) = 0 then ((-300000), S) else (let q4 := xF_endsAtLine S 1 p1; (if q4.1 = 0 then (if (xF_isLast q4.2 p1) = 0 then (let q20 := xF_endsAtLine q4.2 1 (p1 + 1); (if q20.1 = 0 then (if (xh q20.2 1 p1) = (xh q20.2 1 (p1 + 1)) then (let q25 := xF_endsAtLine q20.2 3 p1; (if q25.1 = 0 then (let q29 := xF_put q25.2 3 p1 1; (0, q29)) else ((xLf q25.2), q25.2))) else ((-2), q20.2)) else ((xLf q20.2), q20.2))) else (if (xh q4.2 1 p1) = 0 then (let q12 := xF_endsAtLine q4.2 3 p1; (if q12.1 = 0 then (let q16 := xF_put q12.2 3 p1 1; (0, q16)) else ((xLf q12.2), q12.2))) else ((-2), q4.2))) else ((xLf q4.2), q4.2))))
theorem hdX0_open : yX0_open.cls = RX0 ∧ yX0_open.cls ≠ "java/lang/invoke/MethodHandle" ∧ yX0_open.cls ≠ "java/lang/invoke/VarHandle" ∧ (parseMethodDescriptor yX0_open.desc).map (fun d => d.parameters.length) = some 1 := by decide +kernel
set_option maxHeartbeats 4000000 in
set_option maxRecDepth 100000 in
theorem c_X0_open (l : Launch) (D : va_G) (a : XA) (hO : xOk a) (S : XS) (p1 : Int32) (hI : xI S) : Met l yX0_open wsX0_open ({ frames := 4, cells := 0, slots := 0, locals := 86 }) (va_Pc [.ref (xa a), .int p1] (xB D a S)) (xQi D a (xF_open S p1)) 0 0 (xA a) := by
  refine Met.ofW (cc := cX0_open) (maxL := 3) (ret := (some .int)) (by decide) rfl ?_
  intro p e s m args below meth c s₁ B hml hv
  obtain ⟨rfl, hP, hK⟩ := hv
  have hx := B.exec
  have hb := B.bytes
  have hr := B.returns
  have hts := atoms_spec (ws := wsX0_open) B.pre
  have hown : s.vm.findClass RX0 = some m.cls := findClass_of_methodNamed B.named
  have hlocks := B.notSynchronized
  have hS : va_S (xA a) s.heap s.heap [] := va_S.rf
  have hP : va_P D vwCl (xW a S) s.heap := hP
  have hu : ∀ w ∈ wsX00, w ∈ wsX0_open := fun _ h => List.mem_cons_of_mem _ (List.mem_append_right _ h)
  have hf15 := hts (.fieldLink RX0 15 "FlightBooks" "held" "[[I") (by decide +kernel)
  have hf37 := hts (.fieldLink RX0 37 "FlightBooks" "latestFault" "I") (by decide +kernel)
  have hk57 := hts (.constant RX0 57 (-300000)) (by decide +kernel)
  have hl := lv_entry ([.ref (xa a), .int p1]) (n := 3) (Nat.le_of_ble_eq_true rfl)
  rw [lg_entry_eq]
  generalize (lg_sl ([.ref (xa a), .int p1]) ++ List.replicate (3 - (lg_sl ([.ref (xa a), .int p1])).length) Slot.unset).toArray = ls at hl ⊢
  have hl : lv_has ls 3 [(0, .ref (xa a)), (1, .int p1)] := hl
  refine lv_aload_n hx hb dX0_open_0 rfl (lv_at hl 0 rfl) ?_
  refine lv_iload_n hx hb dX0_open_1 rfl (lv_at hl 1 rfl) ?_
  refine va_calli (va_runV (As := [.int p1]) (rest := []) ⟨hx, hb, hml, hown, hts⟩ (c_X0_isChamber l D a hO S p1) (cwV 1 hts gX0_open_X0_isChamber rfl rfl rfl hdX0_isChamber ⟨Nat.le_of_ble_eq_true rfl, Nat.le_of_ble_eq_true rfl⟩) (xPreV hK hP) rfl rfl hl.1 rfl (lv_room (Nat.le_of_ble_eq_true rfl)) dX0_open_2 ⟨Nat.zero_le _, Nat.zero_le _⟩) hS (fun q _ h => h) (fun q h => h) (fun r1 S1 t H1 locs ht hvm hw1 hB hz1 hk1 hS => ?_)
  obtain ⟨hP, -⟩ := hB
  rw [ht] at hP
  obtain ⟨hw1, hSe1⟩ := hw1
  rw [hSe1] at hP
  refine lv_if_ne (tgt := 11) hx hb dX0_open_5 (by decide) (fun c2 => ?_) (fun c2 => ?_)
  · have hn3 := xe_cham hI hw1 c2
    refine lv_aload_n hx hb dX0_open_11 rfl (lv_at hl 0 rfl) ?_
    refine lv_iconst (v := 1) hx hb dX0_open_12 (by decide) ?_
    refine lv_iload_n hx hb dX0_open_13 rfl (lv_at hl 1 rfl) ?_
    refine va_calli (va_runV (As := [.int 1, .int p1]) (rest := []) ⟨hx, hb, hml, hown, hts⟩ (c_X0_endsAtLine l D a hO S 1 p1 hI vp_k1_5) (cwV 2 hts gX0_open_X0_endsAtLine rfl rfl rfl hdX0_endsAtLine ⟨Nat.le_of_ble_eq_true rfl, Nat.le_of_ble_eq_true rfl⟩) (xPreV hK hP) rfl rfl hl.1 rfl (lv_room (Nat.le_of_ble_eq_true rfl)) dX0_open_14 ⟨Nat.zero_le _, Nat.zero_le _⟩) hS (fun q _ h => h) (fun q h => h) (fun r4 S4 t H1 locs ht hvm hw4 hB hz1 hk1 hS => ?_)
    obtain ⟨hP, -⟩ := hB
    rw [ht] at hP
    refine lv_if_eq (tgt := 25) hx hb dX0_open_17 (by decide) (fun c6 => ?_) (fun c6 => ?_)
    · obtain ⟨hn7, hs7⟩ := xe_endsAtLine hI vp_k1_5 hw4 c6
      subst hs7
      refine lv_iconst (v := 0) hx hb dX0_open_25 (by decide) ?_
      refine lv_istore_n (lv' := [(2, .int 0), (0, .ref (xa a)), (1, .int p1)]) hx hb dX0_open_26 rfl hl (by decide) rfl (fun ls hl => ?_)
      refine lv_aload_n hx hb dX0_open_27 rfl (lv_at hl 1 rfl) ?_
      refine lv_iload_n hx hb dX0_open_28 rfl (lv_at hl 2 rfl) ?_
      refine va_calli (va_runV (As := [.int p1]) (rest := []) ⟨hx, hb, hml, hown, hts⟩ (c_X0_isLast l D a hO S p1) (cwV 1 hts gX0_open_X0_isLast rfl rfl rfl hdX0_isLast ⟨Nat.le_of_ble_eq_true rfl, Nat.le_of_ble_eq_true rfl⟩) (xPreV hK hP) rfl rfl hl.1 rfl (lv_room (Nat.le_of_ble_eq_true rfl)) dX0_open_29 ⟨Nat.zero_le _, Nat.zero_le _⟩) hS (fun q _ h => h) (fun q h => h) (fun r8 S8 t H1 locs ht hvm hw8 hB hz1 hk1 hS => ?_)
      obtain ⟨hP, -⟩ := hB
      rw [ht] at hP
      obtain ⟨hw8, hSe8⟩ := hw8
      rw [hSe8] at hP
      refine lv_if_ne (tgt := 62) hx hb dX0_open_32 (by decide) (fun c9 => ?_) (fun c9 => ?_)
      · refine lv_aload_n hx hb dX0_open_62 rfl (lv_at hl 1 rfl) ?_
        refine x_get hx hb hts hu hown hK hP 2 (by decide) hf15 rfl (v := .ref (xah a)) rfl dX0_open_63 ?_
        refine lv_iconst (v := 1) hx hb dX0_open_66 (by decide) ?_
        refine x_aldh hx hb hK hP vp_k1_5 dX0_open_67 ?_
        refine lv_iload_n hx hb dX0_open_68 rfl (lv_at hl 2 rfl) ?_
        refine x_ldh hx hb hK hP vp_k1_5 hn7 dX0_open_69 ?_
        refine lv_iload_n hx hb dX0_open_70 rfl (lv_at hl 0 rfl) ?_
        refine lv_icmp_eq (tgt := 77) hx hb dX0_open_71 (by decide) (fun c11 => ?_) (fun c11 => ?_)
        · refine lv_aload_n hx hb dX0_open_77 rfl (lv_at hl 1 rfl) ?_
          refine lv_iconst (v := 3) hx hb dX0_open_78 (by decide) ?_
          refine lv_iload_n hx hb dX0_open_79 rfl (lv_at hl 2 rfl) ?_
          refine va_calli (va_runV (As := [.int 3, .int p1]) (rest := []) ⟨hx, hb, hml, hown, hts⟩ (c_X0_endsAtLine l D a hO S 3 p1 hI vp_k3_5) (cwV 2 hts gX0_open_X0_endsAtLine rfl rfl rfl hdX0_endsAtLine ⟨Nat.le_of_ble_eq_true rfl, Nat.le_of_ble_eq_true rfl⟩) (xPreV hK hP) rfl rfl hl.1 rfl (lv_room (Nat.le_of_ble_eq_true rfl)) dX0_open_80 ⟨Nat.zero_le _, Nat.zero_le _⟩) hS (fun q _ h => h) (fun q h => h) (fun r12 S12 t H1 locs ht hvm hw12 hB hz1 hk1 hS => ?_)
          obtain ⟨hP, -⟩ := hB
          rw [ht] at hP
          refine lv_if_eq (tgt := 91) hx hb dX0_open_83 (by decide) (fun c14 => ?_) (fun c14 => ?_)
          · obtain ⟨hn15, hs15⟩ := xe_endsAtLine hI vp_k3_5 hw12 c14
            subst hs15
            refine lv_aload_n hx hb dX0_open_91 rfl (lv_at hl 1 rfl) ?_
            refine lv_iconst (v := 3) hx hb dX0_open_92 (by decide) ?_
            refine lv_iload_n hx hb dX0_open_93 rfl (lv_at hl 2 rfl) ?_
            refine lv_iconst (v := 1) hx hb dX0_open_94 (by decide) ?_
            refine va_callv (va_runV (As := [.int 3, .int p1, .int 1]) (rest := []) ⟨hx, hb, hml, hown, hts⟩ (c_X0_put l D a hO S 3 p1 1 vp_k3_5 hn15) (cwV 3 hts gX0_open_X0_put rfl rfl rfl hdX0_put ⟨Nat.le_of_ble_eq_true rfl, Nat.le_of_ble_eq_true rfl⟩) (xPreV hK hP) rfl rfl hl.1 rfl (lv_room (Nat.le_of_ble_eq_true rfl)) dX0_open_95 ⟨Nat.zero_le _, Nat.zero_le _⟩) hS (fun q _ h => h) (fun q h => h) (fun S16 t H1 locs ht hvm hw16 hB hz1 hk1 hS => ?_)
            obtain ⟨hP, -⟩ := hB
            rw [ht] at hP
            have hI := xI_put hI hw16
            refine lv_iconst (v := 0) hx hb dX0_open_98 (by decide) ?_
            exact W.iret (v := 0) hx hb hr (fun t ht hW => ⟨⟨0, S16, rfl, (by simp only [xF_open, hw1, if_neg c2, hw4, if_pos c6, hw8, if_neg c9, if_pos c11, hw12, if_pos c14, hw16]), by rw [ht]; exact hP, va_K.moved hW.alike hK⟩, hS.F ht⟩) hS.2.2 dX0_open_99
          · refine lv_aload_n hx hb dX0_open_86 rfl (lv_at hl 1 rfl) ?_
            refine x_get hx hb hts hu hown hK hP 9 (by decide) hf37 rfl (v := .int (xLf S12)) rfl dX0_open_87 ?_
            exact W.iret (v := (xLf S12)) hx hb hr (fun t ht hW => ⟨⟨(xLf S12), S12, rfl, (by simp only [xF_open, hw1, if_neg c2, hw4, if_pos c6, hw8, if_neg c9, if_pos c11, hw12, if_neg c14]), by rw [ht]; exact hP, va_K.moved hW.alike hK⟩, hS.F ht⟩) hS.2.2 dX0_open_90
        · refine lv_bipush (v := (-2)) hx hb dX0_open_74 (by decide) ?_
          exact W.iret (v := (-2)) hx hb hr (fun t ht hW => ⟨⟨(-2), S, rfl, (by simp only [xF_open, hw1, if_neg c2, hw4, if_pos c6, hw8, if_neg c9, if_neg c11]), by rw [ht]; exact hP, va_K.moved hW.alike hK⟩, hS.F ht⟩) hS.2.2 dX0_open_76
      · refine lv_aload_n hx hb dX0_open_35 rfl (lv_at hl 1 rfl) ?_
        refine lv_iconst (v := 1) hx hb dX0_open_36 (by decide) ?_
        refine lv_iload_n hx hb dX0_open_37 rfl (lv_at hl 2 rfl) ?_
        refine lv_iconst (v := 1) hx hb dX0_open_38 (by decide) ?_
        refine lv_iadd hx hb dX0_open_39 ?_
        refine va_calli (va_runV (As := [.int 1, .int (p1 + 1)]) (rest := []) ⟨hx, hb, hml, hown, hts⟩ (c_X0_endsAtLine l D a hO S 1 (p1 + 1) hI vp_k1_5) (cwV 2 hts gX0_open_X0_endsAtLine rfl rfl rfl hdX0_endsAtLine ⟨Nat.le_of_ble_eq_true rfl, Nat.le_of_ble_eq_true rfl⟩) (xPreV hK hP) rfl rfl hl.1 rfl (lv_room (Nat.le_of_ble_eq_true rfl)) dX0_open_40 ⟨Nat.zero_le _, Nat.zero_le _⟩) hS (fun q _ h => h) (fun q h => h) (fun r20 S20 t H1 locs ht hvm hw20 hB hz1 hk1 hS => ?_)
        obtain ⟨hP, -⟩ := hB
        rw [ht] at hP
        refine lv_if_eq (tgt := 51) hx hb dX0_open_43 (by decide) (fun c22 => ?_) (fun c22 => ?_)
        · obtain ⟨hn23, hs23⟩ := xe_endsAtLine hI vp_k1_5 hw20 c22
          subst hs23
          refine lv_aload_n hx hb dX0_open_51 rfl (lv_at hl 1 rfl) ?_
          refine x_get hx hb hts hu hown hK hP 2 (by decide) hf15 rfl (v := .ref (xah a)) rfl dX0_open_52 ?_
          refine lv_iconst (v := 1) hx hb dX0_open_55 (by decide) ?_
          refine x_aldh hx hb hK hP vp_k1_5 dX0_open_56 ?_
          refine lv_iload_n hx hb dX0_open_57 rfl (lv_at hl 2 rfl) ?_
          refine lv_iconst (v := 1) hx hb dX0_open_58 (by decide) ?_
          refine lv_iadd hx hb dX0_open_59 ?_
          refine x_ldh hx hb hK hP vp_k1_5 hn23 dX0_open_60 ?_
          refine lv_istore_n (lv' := [(2, .int (xh S 1 (p1 + 1))), (0, .ref (xa a)), (1, .int p1)]) hx hb dX0_open_61 rfl hl (by decide) rfl (fun ls hl => ?_)
          refine lv_aload_n hx hb dX0_open_62 rfl (lv_at hl 1 rfl) ?_
          refine x_get hx hb hts hu hown hK hP 2 (by decide) hf15 rfl (v := .ref (xah a)) rfl dX0_open_63 ?_
          refine lv_iconst (v := 1) hx hb dX0_open_66 (by decide) ?_
          refine x_aldh hx hb hK hP vp_k1_5 dX0_open_67 ?_
          refine lv_iload_n hx hb dX0_open_68 rfl (lv_at hl 2 rfl) ?_
          refine x_ldh hx hb hK hP vp_k1_5 hn7 dX0_open_69 ?_
          refine lv_iload_n hx hb dX0_open_70 rfl (lv_at hl 0 rfl) ?_
          refine lv_icmp_eq (tgt := 77) hx hb dX0_open_71 (by decide) (fun c24 => ?_) (fun c24 => ?_)
          · refine lv_aload_n hx hb dX0_open_77 rfl (lv_at hl 1 rfl) ?_
            refine lv_iconst (v := 3) hx hb dX0_open_78 (by decide) ?_
            refine lv_iload_n hx hb dX0_open_79 rfl (lv_at hl 2 rfl) ?_
            refine va_calli (va_runV (As := [.int 3, .int p1]) (rest := []) ⟨hx, hb, hml, hown, hts⟩ (c_X0_endsAtLine l D a hO S 3 p1 hI vp_k3_5) (cwV 2 hts gX0_open_X0_endsAtLine rfl rfl rfl hdX0_endsAtLine ⟨Nat.le_of_ble_eq_true rfl, Nat.le_of_ble_eq_true rfl⟩) (xPreV hK hP) rfl rfl hl.1 rfl (lv_room (Nat.le_of_ble_eq_true rfl)) dX0_open_80 ⟨Nat.zero_le _, Nat.zero_le _⟩) hS (fun q _ h => h) (fun q h => h) (fun r25 S25 t H1 locs ht hvm hw25 hB hz1 hk1 hS => ?_)
            obtain ⟨hP, -⟩ := hB
            rw [ht] at hP
            refine lv_if_eq (tgt := 91) hx hb dX0_open_83 (by decide) (fun c27 => ?_) (fun c27 => ?_)
            · obtain ⟨hn28, hs28⟩ := xe_endsAtLine hI vp_k3_5 hw25 c27
              subst hs28
              refine lv_aload_n hx hb dX0_open_91 rfl (lv_at hl 1 rfl) ?_
              refine lv_iconst (v := 3) hx hb dX0_open_92 (by decide) ?_
              refine lv_iload_n hx hb dX0_open_93 rfl (lv_at hl 2 rfl) ?_
              refine lv_iconst (v := 1) hx hb dX0_open_94 (by decide) ?_
              refine va_callv (va_runV (As := [.int 3, .int p1, .int 1]) (rest := []) ⟨hx, hb, hml, hown, hts⟩ (c_X0_put l D a hO S 3 p1 1 vp_k3_5 hn28) (cwV 3 hts gX0_open_X0_put rfl rfl rfl hdX0_put ⟨Nat.le_of_ble_eq_true rfl, Nat.le_of_ble_eq_true rfl⟩) (xPreV hK hP) rfl rfl hl.1 rfl (lv_room (Nat.le_of_ble_eq_true rfl)) dX0_open_95 ⟨Nat.zero_le _, Nat.zero_le _⟩) hS (fun q _ h => h) (fun q h => h) (fun S29 t H1 locs ht hvm hw29 hB hz1 hk1 hS => ?_)
              obtain ⟨hP, -⟩ := hB
              rw [ht] at hP
              have hI := xI_put hI hw29
              refine lv_iconst (v := 0) hx hb dX0_open_98 (by decide) ?_
              exact W.iret (v := 0) hx hb hr (fun t ht hW => ⟨⟨0, S29, rfl, (by simp only [xF_open, hw1, if_neg c2, hw4, if_pos c6, hw8, if_pos c9, hw20, if_pos c22, if_pos c24, hw25, if_pos c27, hw29]), by rw [ht]; exact hP, va_K.moved hW.alike hK⟩, hS.F ht⟩) hS.2.2 dX0_open_99
            · refine lv_aload_n hx hb dX0_open_86 rfl (lv_at hl 1 rfl) ?_
              refine x_get hx hb hts hu hown hK hP 9 (by decide) hf37 rfl (v := .int (xLf S25)) rfl dX0_open_87 ?_
              exact W.iret (v := (xLf S25)) hx hb hr (fun t ht hW => ⟨⟨(xLf S25), S25, rfl, (by simp only [xF_open, hw1, if_neg c2, hw4, if_pos c6, hw8, if_pos c9, hw20, if_pos c22, if_pos c24, hw25, if_neg c27]), by rw [ht]; exact hP, va_K.moved hW.alike hK⟩, hS.F ht⟩) hS.2.2 dX0_open_90
          · refine lv_bipush (v := (-2)) hx hb dX0_open_74 (by decide) ?_
            exact W.iret (v := (-2)) hx hb hr (fun t ht hW => ⟨⟨(-2), S, rfl, (by simp only [xF_open, hw1, if_neg c2, hw4, if_pos c6, hw8, if_pos c9, hw20, if_pos c22, if_neg c24]), by rw [ht]; exact hP, va_K.moved hW.alike hK⟩, hS.F ht⟩) hS.2.2 dX0_open_76
        · refine lv_aload_n hx hb dX0_open_46 rfl (lv_at hl 1 rfl) ?_
          refine x_get hx hb hts hu hown hK hP 9 (by decide) hf37 rfl (v := .int (xLf S20)) rfl dX0_open_47 ?_
          exact W.iret (v := (xLf S20)) hx hb hr (fun t ht hW => ⟨⟨(xLf S20), S20, rfl, (by simp only [xF_open, hw1, if_neg c2, hw4, if_pos c6, hw8, if_pos c9, hw20, if_neg c22]), by rw [ht]; exact hP, va_K.moved hW.alike hK⟩, hS.F ht⟩) hS.2.2 dX0_open_50
    · refine lv_aload_n hx hb dX0_open_20 rfl (lv_at hl 0 rfl) ?_
      refine x_get hx hb hts hu hown hK hP 9 (by decide) hf37 rfl (v := .int (xLf S4)) rfl dX0_open_21 ?_
      exact W.iret (v := (xLf S4)) hx hb hr (fun t ht hW => ⟨⟨(xLf S4), S4, rfl, (by simp only [xF_open, hw1, if_neg c2, hw4, if_neg c6]), by rw [ht]; exact hP, va_K.moved hW.alike hK⟩, hS.F ht⟩) hS.2.2 dX0_open_24
  · refine lv_ldc (v := (-300000)) hx hb hown hk57 dX0_open_8 ?_
    exact W.iret (v := (-300000)) hx hb hr (fun t ht hW => ⟨⟨(-300000), S, rfl, (by simp only [xF_open, hw1, if_pos c2]), by rw [ht]; exact hP, va_K.moved hW.alike hK⟩, hS.F ht⟩) hS.2.2 dX0_open_10
def xF_shut (S : XS) (p1 : Int32) : Int32 × XS := (if (xF_isChamber S p1) = 0 then ((-300000), S) else (let q4 := xF_endsAtLine S 3 p1; (if q4.1 = 0 then (let q8 := xF_put q4.2 3 p1 0; ((xh q4.2 3 p1), q8)) else ((xLf q4.2), q4.2))))
theorem hdX0_shut : yX0_shut.cls = RX0 ∧ yX0_shut.cls ≠ "java/lang/invoke/MethodHandle" ∧ yX0_shut.cls ≠ "java/lang/invoke/VarHandle" ∧ (parseMethodDescriptor yX0_shut.desc).map (fun d => d.parameters.length) = some 1 := by decide +kernel
set_option maxHeartbeats 4000000 in
set_option maxRecDepth 100000 in
theorem c_X0_shut (l : Launch) (D : va_G) (a : XA) (hO : xOk a) (S : XS) (p1 : Int32) (hI : xI S) : Met l yX0_shut wsX0_shut ({ frames := 4, cells := 0, slots := 0, locals := 86 }) (va_Pc [.ref (xa a), .int p1] (xB D a S)) (xQi D a (xF_shut S p1)) 0 0 (xA a) := by
  refine Met.ofW (cc := cX0_shut) (maxL := 3) (ret := (some .int)) (by decide) rfl ?_
  intro p e s m args below meth c s₁ B hml hv
  obtain ⟨rfl, hP, hK⟩ := hv
  have hx := B.exec
  have hb := B.bytes
  have hr := B.returns
  have hts := atoms_spec (ws := wsX0_shut) B.pre
  have hown : s.vm.findClass RX0 = some m.cls := findClass_of_methodNamed B.named
  have hlocks := B.notSynchronized
  have hS : va_S (xA a) s.heap s.heap [] := va_S.rf
  have hP : va_P D vwCl (xW a S) s.heap := hP
  have hu : ∀ w ∈ wsX00, w ∈ wsX0_shut := fun _ h => List.mem_cons_of_mem _ (List.mem_append_right _ h)
  have hf15 := hts (.fieldLink RX0 15 "FlightBooks" "held" "[[I") (by decide +kernel)
  have hf37 := hts (.fieldLink RX0 37 "FlightBooks" "latestFault" "I") (by decide +kernel)
  have hk57 := hts (.constant RX0 57 (-300000)) (by decide +kernel)
  have hl := lv_entry ([.ref (xa a), .int p1]) (n := 3) (Nat.le_of_ble_eq_true rfl)
  rw [lg_entry_eq]
  generalize (lg_sl ([.ref (xa a), .int p1]) ++ List.replicate (3 - (lg_sl ([.ref (xa a), .int p1])).length) Slot.unset).toArray = ls at hl ⊢
  have hl : lv_has ls 3 [(0, .ref (xa a)), (1, .int p1)] := hl
  refine lv_aload_n hx hb dX0_shut_0 rfl (lv_at hl 0 rfl) ?_
  refine lv_iload_n hx hb dX0_shut_1 rfl (lv_at hl 1 rfl) ?_
  refine va_calli (va_runV (As := [.int p1]) (rest := []) ⟨hx, hb, hml, hown, hts⟩ (c_X0_isChamber l D a hO S p1) (cwV 1 hts gX0_shut_X0_isChamber rfl rfl rfl hdX0_isChamber ⟨Nat.le_of_ble_eq_true rfl, Nat.le_of_ble_eq_true rfl⟩) (xPreV hK hP) rfl rfl hl.1 rfl (lv_room (Nat.le_of_ble_eq_true rfl)) dX0_shut_2 ⟨Nat.zero_le _, Nat.zero_le _⟩) hS (fun q _ h => h) (fun q h => h) (fun r1 S1 t H1 locs ht hvm hw1 hB hz1 hk1 hS => ?_)
  obtain ⟨hP, -⟩ := hB
  rw [ht] at hP
  obtain ⟨hw1, hSe1⟩ := hw1
  rw [hSe1] at hP
  refine lv_if_ne (tgt := 11) hx hb dX0_shut_5 (by decide) (fun c2 => ?_) (fun c2 => ?_)
  · have hn3 := xe_cham hI hw1 c2
    refine lv_aload_n hx hb dX0_shut_11 rfl (lv_at hl 0 rfl) ?_
    refine lv_iconst (v := 3) hx hb dX0_shut_12 (by decide) ?_
    refine lv_iload_n hx hb dX0_shut_13 rfl (lv_at hl 1 rfl) ?_
    refine va_calli (va_runV (As := [.int 3, .int p1]) (rest := []) ⟨hx, hb, hml, hown, hts⟩ (c_X0_endsAtLine l D a hO S 3 p1 hI vp_k3_5) (cwV 2 hts gX0_shut_X0_endsAtLine rfl rfl rfl hdX0_endsAtLine ⟨Nat.le_of_ble_eq_true rfl, Nat.le_of_ble_eq_true rfl⟩) (xPreV hK hP) rfl rfl hl.1 rfl (lv_room (Nat.le_of_ble_eq_true rfl)) dX0_shut_14 ⟨Nat.zero_le _, Nat.zero_le _⟩) hS (fun q _ h => h) (fun q h => h) (fun r4 S4 t H1 locs ht hvm hw4 hB hz1 hk1 hS => ?_)
    obtain ⟨hP, -⟩ := hB
    rw [ht] at hP
    refine lv_if_eq (tgt := 25) hx hb dX0_shut_17 (by decide) (fun c6 => ?_) (fun c6 => ?_)
    · obtain ⟨hn7, hs7⟩ := xe_endsAtLine hI vp_k3_5 hw4 c6
      subst hs7
      refine lv_aload_n hx hb dX0_shut_25 rfl (lv_at hl 0 rfl) ?_
      refine x_get hx hb hts hu hown hK hP 2 (by decide) hf15 rfl (v := .ref (xah a)) rfl dX0_shut_26 ?_
      refine lv_iconst (v := 3) hx hb dX0_shut_29 (by decide) ?_
      refine x_aldh hx hb hK hP vp_k3_5 dX0_shut_30 ?_
      refine lv_iload_n hx hb dX0_shut_31 rfl (lv_at hl 1 rfl) ?_
      refine x_ldh hx hb hK hP vp_k3_5 hn7 dX0_shut_32 ?_
      refine lv_istore_n (lv' := [(2, .int (xh S 3 p1)), (0, .ref (xa a)), (1, .int p1)]) hx hb dX0_shut_33 rfl hl (by decide) rfl (fun ls hl => ?_)
      refine lv_aload_n hx hb dX0_shut_34 rfl (lv_at hl 1 rfl) ?_
      refine lv_iconst (v := 3) hx hb dX0_shut_35 (by decide) ?_
      refine lv_iload_n hx hb dX0_shut_36 rfl (lv_at hl 2 rfl) ?_
      refine lv_iconst (v := 0) hx hb dX0_shut_37 (by decide) ?_
      refine va_callv (va_runV (As := [.int 3, .int p1, .int 0]) (rest := []) ⟨hx, hb, hml, hown, hts⟩ (c_X0_put l D a hO S 3 p1 0 vp_k3_5 hn7) (cwV 3 hts gX0_shut_X0_put rfl rfl rfl hdX0_put ⟨Nat.le_of_ble_eq_true rfl, Nat.le_of_ble_eq_true rfl⟩) (xPreV hK hP) rfl rfl hl.1 rfl (lv_room (Nat.le_of_ble_eq_true rfl)) dX0_shut_38 ⟨Nat.zero_le _, Nat.zero_le _⟩) hS (fun q _ h => h) (fun q h => h) (fun S8 t H1 locs ht hvm hw8 hB hz1 hk1 hS => ?_)
      obtain ⟨hP, -⟩ := hB
      rw [ht] at hP
      have hI := xI_put hI hw8
      refine lv_iload_n hx hb dX0_shut_41 rfl (lv_at hl 0 rfl) ?_
      exact W.iret (v := (xh S 3 p1)) hx hb hr (fun t ht hW => ⟨⟨(xh S 3 p1), S8, rfl, (by simp only [xF_shut, hw1, if_neg c2, hw4, if_pos c6, hw8]), by rw [ht]; exact hP, va_K.moved hW.alike hK⟩, hS.F ht⟩) hS.2.2 dX0_shut_42
    · refine lv_aload_n hx hb dX0_shut_20 rfl (lv_at hl 0 rfl) ?_
      refine x_get hx hb hts hu hown hK hP 9 (by decide) hf37 rfl (v := .int (xLf S4)) rfl dX0_shut_21 ?_
      exact W.iret (v := (xLf S4)) hx hb hr (fun t ht hW => ⟨⟨(xLf S4), S4, rfl, (by simp only [xF_shut, hw1, if_neg c2, hw4, if_neg c6]), by rw [ht]; exact hP, va_K.moved hW.alike hK⟩, hS.F ht⟩) hS.2.2 dX0_shut_24
  · refine lv_ldc (v := (-300000)) hx hb hown hk57 dX0_shut_8 ?_
    exact W.iret (v := (-300000)) hx hb hr (fun t ht hW => ⟨⟨(-300000), S, rfl, (by simp only [xF_shut, hw1, if_pos c2]), by rw [ht]; exact hP, va_K.moved hW.alike hK⟩, hS.F ht⟩) hS.2.2 dX0_shut_10
def xF_enter (S : XS) (p1 p2 : Int32) : Int32 × XS := (if (xF_cut 0 p1) = 0 then ((-300000), S) else (if p2 < 0 then ((-300000), S) else (if p2 ≤ 16000 then (let q7 := xF_endsAtLine S 0 0; (if q7.1 = 0 then (if (xh q7.2 0 0) = 0 then (let q12 := xF_endsAtLine q7.2 1 0; (if q12.1 = 0 then (if p2 ≤ (8 * (xh q12.2 1 0)) then (let q17 := xF_endsAtArrival q12.2 0 p1 p2; (if q17.1 = 0 then ((xh q17.2 4 0), q17.2) else ((xLf q17.2), q17.2))) else ((-3), q12.2)) else ((xLf q12.2), q12.2))) else ((-2), q7.2)) else ((xLf q7.2), q7.2))) else ((-300000), S))))
theorem hdX0_enter : yX0_enter.cls = RX0 ∧ yX0_enter.cls ≠ "java/lang/invoke/MethodHandle" ∧ yX0_enter.cls ≠ "java/lang/invoke/VarHandle" ∧ (parseMethodDescriptor yX0_enter.desc).map (fun d => d.parameters.length) = some 2 := by decide +kernel
set_option maxHeartbeats 4000000 in
set_option maxRecDepth 100000 in
theorem c_X0_enter (l : Launch) (D : va_G) (a : XA) (hO : xOk a) (S : XS) (p1 p2 : Int32) (hI : xI S) : Met l yX0_enter wsX0_enter ({ frames := 5, cells := 0, slots := 0, locals := 109 }) (va_Pc [.ref (xa a), .int p1, .int p2] (xB D a S)) (xQi D a (xF_enter S p1 p2)) 0 0 (xA a) := by
  refine Met.ofW (cc := cX0_enter) (maxL := 3) (ret := (some .int)) (by decide) rfl ?_
  intro p e s m args below meth c s₁ B hml hv
  obtain ⟨rfl, hP, hK⟩ := hv
  have hx := B.exec
  have hb := B.bytes
  have hr := B.returns
  have hts := atoms_spec (ws := wsX0_enter) B.pre
  have hown : s.vm.findClass RX0 = some m.cls := findClass_of_methodNamed B.named
  have hlocks := B.notSynchronized
  have hS : va_S (xA a) s.heap s.heap [] := va_S.rf
  have hP : va_P D vwCl (xW a S) s.heap := hP
  have hu : ∀ w ∈ wsX00, w ∈ wsX0_enter := fun _ h => List.mem_cons_of_mem _ (List.mem_append_right _ h)
  have hk57 := hts (.constant RX0 57 (-300000)) (by decide +kernel)
  have hf15 := hts (.fieldLink RX0 15 "FlightBooks" "held" "[[I") (by decide +kernel)
  have hf37 := hts (.fieldLink RX0 37 "FlightBooks" "latestFault" "I") (by decide +kernel)
  have hl := lv_entry ([.ref (xa a), .int p1, .int p2]) (n := 3) (Nat.le_of_ble_eq_true rfl)
  rw [lg_entry_eq]
  generalize (lg_sl ([.ref (xa a), .int p1, .int p2]) ++ List.replicate (3 - (lg_sl ([.ref (xa a), .int p1, .int p2])).length) Slot.unset).toArray = ls at hl ⊢
  have hl : lv_has ls 3 [(0, .ref (xa a)), (1, .int p1), (2, .int p2)] := hl
  refine lv_iconst (v := 0) hx hb dX0_enter_0 (by decide) ?_
  refine lv_iload_n hx hb dX0_enter_1 rfl (lv_at hl 1 rfl) ?_
  refine va_calli (va_runS (As := [.int 0, .int p1]) (rest := []) ⟨hx, hb, hml, hown, hts⟩ (c_X0_cut l 0 p1) (va_cwS 2 hts gX0_enter_X0_cut rfl rfl rfl hdX0_cut ⟨Nat.le_of_ble_eq_true rfl, Nat.le_of_ble_eq_true rfl⟩) pPreS rfl rfl hl.1 rfl (lv_room (Nat.le_of_ble_eq_true rfl)) dX0_enter_2 ⟨Nat.zero_le _, Nat.zero_le _⟩) hS (fun q _ h => h.elim) (fun q h => h.elim) (fun r1 u1 t H1 locs ht hvm hw1 hB hz1 hk1 hS => ?_)
  have hP := P_kept hP hk1
  refine lv_if_eq (tgt := 19) hx hb dX0_enter_5 (by decide) (fun c2 => ?_) (fun c2 => ?_)
  · refine lv_ldc (v := (-300000)) hx hb hown hk57 dX0_enter_19 ?_
    exact W.iret (v := (-300000)) hx hb hr (fun t ht hW => ⟨⟨(-300000), S, rfl, (by simp only [xF_enter, hw1, if_pos c2]), by rw [ht]; exact hP, va_K.moved hW.alike hK⟩, hS.F ht⟩) hS.2.2 dX0_enter_21
  · refine lv_iload_n hx hb dX0_enter_8 rfl (lv_at hl 2 rfl) ?_
    refine lv_if_lt (tgt := 19) hx hb dX0_enter_9 (by decide) (fun c5 => ?_) (fun c5 => ?_)
    · refine lv_ldc (v := (-300000)) hx hb hown hk57 dX0_enter_19 ?_
      exact W.iret (v := (-300000)) hx hb hr (fun t ht hW => ⟨⟨(-300000), S, rfl, (by simp only [xF_enter, hw1, if_neg c2, if_pos c5]), by rw [ht]; exact hP, va_K.moved hW.alike hK⟩, hS.F ht⟩) hS.2.2 dX0_enter_21
    · refine lv_iload_n hx hb dX0_enter_12 rfl (lv_at hl 2 rfl) ?_
      refine lv_sipush (v := 16000) hx hb dX0_enter_13 (by decide) ?_
      refine lv_icmp_le (tgt := 22) hx hb dX0_enter_16 (by decide) (fun c6 => ?_) (fun c6 => ?_)
      · refine lv_aload_n hx hb dX0_enter_22 rfl (lv_at hl 0 rfl) ?_
        refine lv_iconst (v := 0) hx hb dX0_enter_23 (by decide) ?_
        refine lv_iconst (v := 0) hx hb dX0_enter_24 (by decide) ?_
        refine va_calli (va_runV (As := [.int 0, .int 0]) (rest := []) ⟨hx, hb, hml, hown, hts⟩ (c_X0_endsAtLine l D a hO S 0 0 hI vp_k0_5) (cwV 2 hts gX0_enter_X0_endsAtLine rfl rfl rfl hdX0_endsAtLine ⟨Nat.le_of_ble_eq_true rfl, Nat.le_of_ble_eq_true rfl⟩) (xPreV hK hP) rfl rfl hl.1 rfl (lv_room (Nat.le_of_ble_eq_true rfl)) dX0_enter_25 ⟨Nat.zero_le _, Nat.zero_le _⟩) hS (fun q _ h => h) (fun q h => h) (fun r7 S7 t H1 locs ht hvm hw7 hB hz1 hk1 hS => ?_)
        obtain ⟨hP, -⟩ := hB
        rw [ht] at hP
        refine lv_if_eq (tgt := 36) hx hb dX0_enter_28 (by decide) (fun c9 => ?_) (fun c9 => ?_)
        · obtain ⟨hn10, hs10⟩ := xe_endsAtLine hI vp_k0_5 hw7 c9
          subst hs10
          refine lv_aload_n hx hb dX0_enter_36 rfl (lv_at hl 0 rfl) ?_
          refine x_get hx hb hts hu hown hK hP 2 (by decide) hf15 rfl (v := .ref (xah a)) rfl dX0_enter_37 ?_
          refine lv_iconst (v := 0) hx hb dX0_enter_40 (by decide) ?_
          refine x_aldh hx hb hK hP vp_k0_5 dX0_enter_41 ?_
          refine lv_iconst (v := 0) hx hb dX0_enter_42 (by decide) ?_
          refine x_ldh hx hb hK hP vp_k0_5 vp_k0_24 dX0_enter_43 ?_
          refine lv_if_eq (tgt := 50) hx hb dX0_enter_44 (by decide) (fun c11 => ?_) (fun c11 => ?_)
          · refine lv_aload_n hx hb dX0_enter_50 rfl (lv_at hl 0 rfl) ?_
            refine lv_iconst (v := 1) hx hb dX0_enter_51 (by decide) ?_
            refine lv_iconst (v := 0) hx hb dX0_enter_52 (by decide) ?_
            refine va_calli (va_runV (As := [.int 1, .int 0]) (rest := []) ⟨hx, hb, hml, hown, hts⟩ (c_X0_endsAtLine l D a hO S 1 0 hI vp_k1_5) (cwV 2 hts gX0_enter_X0_endsAtLine rfl rfl rfl hdX0_endsAtLine ⟨Nat.le_of_ble_eq_true rfl, Nat.le_of_ble_eq_true rfl⟩) (xPreV hK hP) rfl rfl hl.1 rfl (lv_room (Nat.le_of_ble_eq_true rfl)) dX0_enter_53 ⟨Nat.zero_le _, Nat.zero_le _⟩) hS (fun q _ h => h) (fun q h => h) (fun r12 S12 t H1 locs ht hvm hw12 hB hz1 hk1 hS => ?_)
            obtain ⟨hP, -⟩ := hB
            rw [ht] at hP
            refine lv_if_eq (tgt := 64) hx hb dX0_enter_56 (by decide) (fun c14 => ?_) (fun c14 => ?_)
            · obtain ⟨hn15, hs15⟩ := xe_endsAtLine hI vp_k1_5 hw12 c14
              subst hs15
              refine lv_iload_n hx hb dX0_enter_64 rfl (lv_at hl 2 rfl) ?_
              refine lv_bipush (v := 8) hx hb dX0_enter_65 (by decide) ?_
              refine lv_aload_n hx hb dX0_enter_67 rfl (lv_at hl 0 rfl) ?_
              refine x_get hx hb hts hu hown hK hP 2 (by decide) hf15 rfl (v := .ref (xah a)) rfl dX0_enter_68 ?_
              refine lv_iconst (v := 1) hx hb dX0_enter_71 (by decide) ?_
              refine x_aldh hx hb hK hP vp_k1_5 dX0_enter_72 ?_
              refine lv_iconst (v := 0) hx hb dX0_enter_73 (by decide) ?_
              refine x_ldh hx hb hK hP vp_k1_5 vp_k0_24 dX0_enter_74 ?_
              refine lv_imul hx hb dX0_enter_75 ?_
              refine lv_icmp_le (tgt := 82) hx hb dX0_enter_76 (by decide) (fun c16 => ?_) (fun c16 => ?_)
              · refine lv_aload_n hx hb dX0_enter_82 rfl (lv_at hl 0 rfl) ?_
                refine lv_iconst (v := 0) hx hb dX0_enter_83 (by decide) ?_
                refine lv_iload_n hx hb dX0_enter_84 rfl (lv_at hl 1 rfl) ?_
                refine lv_iload_n hx hb dX0_enter_85 rfl (lv_at hl 2 rfl) ?_
                refine va_calli (va_runV (As := [.int 0, .int p1, .int p2]) (rest := []) ⟨hx, hb, hml, hown, hts⟩ (c_X0_endsAtArrival l D a hO S 0 p1 p2 hI) (cwV 3 hts gX0_enter_X0_endsAtArrival rfl rfl rfl hdX0_endsAtArrival ⟨Nat.le_of_ble_eq_true rfl, Nat.le_of_ble_eq_true rfl⟩) (xPreV hK hP) rfl rfl hl.1 rfl (lv_room (Nat.le_of_ble_eq_true rfl)) dX0_enter_86 ⟨Nat.zero_le _, Nat.zero_le _⟩) hS (fun q _ h => h) (fun q h => h) (fun r17 S17 t H1 locs ht hvm hw17 hB hz1 hk1 hS => ?_)
                obtain ⟨hP, -⟩ := hB
                rw [ht] at hP
                have hI := xI_endsAtArrival hI hw17
                refine lv_if_eq (tgt := 97) hx hb dX0_enter_89 (by decide) (fun c19 => ?_) (fun c19 => ?_)
                · refine lv_aload_n hx hb dX0_enter_97 rfl (lv_at hl 0 rfl) ?_
                  refine x_get hx hb hts hu hown hK hP 2 (by decide) hf15 rfl (v := .ref (xah a)) rfl dX0_enter_98 ?_
                  refine lv_iconst (v := 4) hx hb dX0_enter_101 (by decide) ?_
                  refine x_aldh hx hb hK hP vp_k4_5 dX0_enter_102 ?_
                  refine lv_iconst (v := 0) hx hb dX0_enter_103 (by decide) ?_
                  refine x_ldh hx hb hK hP vp_k4_5 vp_k0_24 dX0_enter_104 ?_
                  exact W.iret (v := (xh S17 4 0)) hx hb hr (fun t ht hW => ⟨⟨(xh S17 4 0), S17, rfl, (by simp only [xF_enter, hw1, if_neg c2, if_neg c5, if_pos c6, hw7, if_pos c9, if_pos c11, hw12, if_pos c14, if_pos c16, hw17, if_pos c19]), by rw [ht]; exact hP, va_K.moved hW.alike hK⟩, hS.F ht⟩) hS.2.2 dX0_enter_105
                · refine lv_aload_n hx hb dX0_enter_92 rfl (lv_at hl 0 rfl) ?_
                  refine x_get hx hb hts hu hown hK hP 9 (by decide) hf37 rfl (v := .int (xLf S17)) rfl dX0_enter_93 ?_
                  exact W.iret (v := (xLf S17)) hx hb hr (fun t ht hW => ⟨⟨(xLf S17), S17, rfl, (by simp only [xF_enter, hw1, if_neg c2, if_neg c5, if_pos c6, hw7, if_pos c9, if_pos c11, hw12, if_pos c14, if_pos c16, hw17, if_neg c19]), by rw [ht]; exact hP, va_K.moved hW.alike hK⟩, hS.F ht⟩) hS.2.2 dX0_enter_96
              · refine lv_bipush (v := (-3)) hx hb dX0_enter_79 (by decide) ?_
                exact W.iret (v := (-3)) hx hb hr (fun t ht hW => ⟨⟨(-3), S, rfl, (by simp only [xF_enter, hw1, if_neg c2, if_neg c5, if_pos c6, hw7, if_pos c9, if_pos c11, hw12, if_pos c14, if_neg c16]), by rw [ht]; exact hP, va_K.moved hW.alike hK⟩, hS.F ht⟩) hS.2.2 dX0_enter_81
            · refine lv_aload_n hx hb dX0_enter_59 rfl (lv_at hl 0 rfl) ?_
              refine x_get hx hb hts hu hown hK hP 9 (by decide) hf37 rfl (v := .int (xLf S12)) rfl dX0_enter_60 ?_
              exact W.iret (v := (xLf S12)) hx hb hr (fun t ht hW => ⟨⟨(xLf S12), S12, rfl, (by simp only [xF_enter, hw1, if_neg c2, if_neg c5, if_pos c6, hw7, if_pos c9, if_pos c11, hw12, if_neg c14]), by rw [ht]; exact hP, va_K.moved hW.alike hK⟩, hS.F ht⟩) hS.2.2 dX0_enter_63
          · refine lv_bipush (v := (-2)) hx hb dX0_enter_47 (by decide) ?_
            exact W.iret (v := (-2)) hx hb hr (fun t ht hW => ⟨⟨(-2), S, rfl, (by simp only [xF_enter, hw1, if_neg c2, if_neg c5, if_pos c6, hw7, if_pos c9, if_neg c11]), by rw [ht]; exact hP, va_K.moved hW.alike hK⟩, hS.F ht⟩) hS.2.2 dX0_enter_49
        · refine lv_aload_n hx hb dX0_enter_31 rfl (lv_at hl 0 rfl) ?_
          refine x_get hx hb hts hu hown hK hP 9 (by decide) hf37 rfl (v := .int (xLf S7)) rfl dX0_enter_32 ?_
          exact W.iret (v := (xLf S7)) hx hb hr (fun t ht hW => ⟨⟨(xLf S7), S7, rfl, (by simp only [xF_enter, hw1, if_neg c2, if_neg c5, if_pos c6, hw7, if_neg c9]), by rw [ht]; exact hP, va_K.moved hW.alike hK⟩, hS.F ht⟩) hS.2.2 dX0_enter_35
      · refine lv_ldc (v := (-300000)) hx hb hown hk57 dX0_enter_19 ?_
        exact W.iret (v := (-300000)) hx hb hr (fun t ht hW => ⟨⟨(-300000), S, rfl, (by simp only [xF_enter, hw1, if_neg c2, if_neg c5, if_neg c6]), by rw [ht]; exact hP, va_K.moved hW.alike hK⟩, hS.F ht⟩) hS.2.2 dX0_enter_21
def xF_pass (S : XS) (p1 : Int32) : Int32 × XS := (if (xF_isChamber S p1) = 0 then ((-300000), S) else (let q4 := xF_endsAtLine S 3 p1; (if q4.1 = 0 then (if (xh q4.2 3 p1) = 0 then ((-2), q4.2) else (let q9 := xF_endsAtLine q4.2 0 p1; (if q9.1 = 0 then (if (xh q9.2 0 p1) = 0 then ((-3), q9.2) else (if (xF_isLast q9.2 p1) = 0 then (let q17 := xF_goOn q9.2 p1; (q17.1, q17.2)) else (let q20 := xF_goOut q9.2 p1; (q20.1, q20.2)))) else ((xLf q9.2), q9.2)))) else ((xLf q4.2), q4.2))))
theorem hdX0_pass : yX0_pass.cls = RX0 ∧ yX0_pass.cls ≠ "java/lang/invoke/MethodHandle" ∧ yX0_pass.cls ≠ "java/lang/invoke/VarHandle" ∧ (parseMethodDescriptor yX0_pass.desc).map (fun d => d.parameters.length) = some 1 := by decide +kernel
set_option maxHeartbeats 4000000 in
set_option maxRecDepth 100000 in
theorem c_X0_pass (l : Launch) (D : va_G) (a : XA) (hO : xOk a) (S : XS) (p1 : Int32) (hI : xI S) : Met l yX0_pass wsX0_pass ({ frames := 6, cells := 0, slots := 0, locals := 131 }) (va_Pc [.ref (xa a), .int p1] (xB D a S)) (xQi D a (xF_pass S p1)) 0 0 (xA a) := by
  refine Met.ofW (cc := cX0_pass) (maxL := 2) (ret := (some .int)) (by decide) rfl ?_
  intro p e s m args below meth c s₁ B hml hv
  obtain ⟨rfl, hP, hK⟩ := hv
  have hx := B.exec
  have hb := B.bytes
  have hr := B.returns
  have hts := atoms_spec (ws := wsX0_pass) B.pre
  have hown : s.vm.findClass RX0 = some m.cls := findClass_of_methodNamed B.named
  have hlocks := B.notSynchronized
  have hS : va_S (xA a) s.heap s.heap [] := va_S.rf
  have hP : va_P D vwCl (xW a S) s.heap := hP
  have hu : ∀ w ∈ wsX00, w ∈ wsX0_pass := fun _ h => List.mem_cons_of_mem _ (List.mem_append_right _ h)
  have hf15 := hts (.fieldLink RX0 15 "FlightBooks" "held" "[[I") (by decide +kernel)
  have hf37 := hts (.fieldLink RX0 37 "FlightBooks" "latestFault" "I") (by decide +kernel)
  have hk57 := hts (.constant RX0 57 (-300000)) (by decide +kernel)
  have hl := lv_entry ([.ref (xa a), .int p1]) (n := 2) (Nat.le_of_ble_eq_true rfl)
  rw [lg_entry_eq]
  generalize (lg_sl ([.ref (xa a), .int p1]) ++ List.replicate (2 - (lg_sl ([.ref (xa a), .int p1])).length) Slot.unset).toArray = ls at hl ⊢
  have hl : lv_has ls 2 [(0, .ref (xa a)), (1, .int p1)] := hl
  refine lv_aload_n hx hb dX0_pass_0 rfl (lv_at hl 0 rfl) ?_
  refine lv_iload_n hx hb dX0_pass_1 rfl (lv_at hl 1 rfl) ?_
  refine va_calli (va_runV (As := [.int p1]) (rest := []) ⟨hx, hb, hml, hown, hts⟩ (c_X0_isChamber l D a hO S p1) (cwV 1 hts gX0_pass_X0_isChamber rfl rfl rfl hdX0_isChamber ⟨Nat.le_of_ble_eq_true rfl, Nat.le_of_ble_eq_true rfl⟩) (xPreV hK hP) rfl rfl hl.1 rfl (lv_room (Nat.le_of_ble_eq_true rfl)) dX0_pass_2 ⟨Nat.zero_le _, Nat.zero_le _⟩) hS (fun q _ h => h) (fun q h => h) (fun r1 S1 t H1 locs ht hvm hw1 hB hz1 hk1 hS => ?_)
  obtain ⟨hP, -⟩ := hB
  rw [ht] at hP
  obtain ⟨hw1, hSe1⟩ := hw1
  rw [hSe1] at hP
  refine lv_if_ne (tgt := 11) hx hb dX0_pass_5 (by decide) (fun c2 => ?_) (fun c2 => ?_)
  · have hn3 := xe_cham hI hw1 c2
    refine lv_aload_n hx hb dX0_pass_11 rfl (lv_at hl 0 rfl) ?_
    refine lv_iconst (v := 3) hx hb dX0_pass_12 (by decide) ?_
    refine lv_iload_n hx hb dX0_pass_13 rfl (lv_at hl 1 rfl) ?_
    refine va_calli (va_runV (As := [.int 3, .int p1]) (rest := []) ⟨hx, hb, hml, hown, hts⟩ (c_X0_endsAtLine l D a hO S 3 p1 hI vp_k3_5) (cwV 2 hts gX0_pass_X0_endsAtLine rfl rfl rfl hdX0_endsAtLine ⟨Nat.le_of_ble_eq_true rfl, Nat.le_of_ble_eq_true rfl⟩) (xPreV hK hP) rfl rfl hl.1 rfl (lv_room (Nat.le_of_ble_eq_true rfl)) dX0_pass_14 ⟨Nat.zero_le _, Nat.zero_le _⟩) hS (fun q _ h => h) (fun q h => h) (fun r4 S4 t H1 locs ht hvm hw4 hB hz1 hk1 hS => ?_)
    obtain ⟨hP, -⟩ := hB
    rw [ht] at hP
    refine lv_if_eq (tgt := 25) hx hb dX0_pass_17 (by decide) (fun c6 => ?_) (fun c6 => ?_)
    · obtain ⟨hn7, hs7⟩ := xe_endsAtLine hI vp_k3_5 hw4 c6
      subst hs7
      refine lv_aload_n hx hb dX0_pass_25 rfl (lv_at hl 0 rfl) ?_
      refine x_get hx hb hts hu hown hK hP 2 (by decide) hf15 rfl (v := .ref (xah a)) rfl dX0_pass_26 ?_
      refine lv_iconst (v := 3) hx hb dX0_pass_29 (by decide) ?_
      refine x_aldh hx hb hK hP vp_k3_5 dX0_pass_30 ?_
      refine lv_iload_n hx hb dX0_pass_31 rfl (lv_at hl 1 rfl) ?_
      refine x_ldh hx hb hK hP vp_k3_5 hn7 dX0_pass_32 ?_
      refine lv_if_ne (tgt := 39) hx hb dX0_pass_33 (by decide) (fun c8 => ?_) (fun c8 => ?_)
      · refine lv_aload_n hx hb dX0_pass_39 rfl (lv_at hl 0 rfl) ?_
        refine lv_iconst (v := 0) hx hb dX0_pass_40 (by decide) ?_
        refine lv_iload_n hx hb dX0_pass_41 rfl (lv_at hl 1 rfl) ?_
        refine va_calli (va_runV (As := [.int 0, .int p1]) (rest := []) ⟨hx, hb, hml, hown, hts⟩ (c_X0_endsAtLine l D a hO S 0 p1 hI vp_k0_5) (cwV 2 hts gX0_pass_X0_endsAtLine rfl rfl rfl hdX0_endsAtLine ⟨Nat.le_of_ble_eq_true rfl, Nat.le_of_ble_eq_true rfl⟩) (xPreV hK hP) rfl rfl hl.1 rfl (lv_room (Nat.le_of_ble_eq_true rfl)) dX0_pass_42 ⟨Nat.zero_le _, Nat.zero_le _⟩) hS (fun q _ h => h) (fun q h => h) (fun r9 S9 t H1 locs ht hvm hw9 hB hz1 hk1 hS => ?_)
        obtain ⟨hP, -⟩ := hB
        rw [ht] at hP
        refine lv_if_eq (tgt := 53) hx hb dX0_pass_45 (by decide) (fun c11 => ?_) (fun c11 => ?_)
        · obtain ⟨hn12, hs12⟩ := xe_endsAtLine hI vp_k0_5 hw9 c11
          subst hs12
          refine lv_aload_n hx hb dX0_pass_53 rfl (lv_at hl 0 rfl) ?_
          refine x_get hx hb hts hu hown hK hP 2 (by decide) hf15 rfl (v := .ref (xah a)) rfl dX0_pass_54 ?_
          refine lv_iconst (v := 0) hx hb dX0_pass_57 (by decide) ?_
          refine x_aldh hx hb hK hP vp_k0_5 dX0_pass_58 ?_
          refine lv_iload_n hx hb dX0_pass_59 rfl (lv_at hl 1 rfl) ?_
          refine x_ldh hx hb hK hP vp_k0_5 hn12 dX0_pass_60 ?_
          refine lv_if_ne (tgt := 67) hx hb dX0_pass_61 (by decide) (fun c13 => ?_) (fun c13 => ?_)
          · refine lv_aload_n hx hb dX0_pass_67 rfl (lv_at hl 0 rfl) ?_
            refine lv_iload_n hx hb dX0_pass_68 rfl (lv_at hl 1 rfl) ?_
            refine va_calli (va_runV (As := [.int p1]) (rest := []) ⟨hx, hb, hml, hown, hts⟩ (c_X0_isLast l D a hO S p1) (cwV 1 hts gX0_pass_X0_isLast rfl rfl rfl hdX0_isLast ⟨Nat.le_of_ble_eq_true rfl, Nat.le_of_ble_eq_true rfl⟩) (xPreV hK hP) rfl rfl hl.1 rfl (lv_room (Nat.le_of_ble_eq_true rfl)) dX0_pass_69 ⟨Nat.zero_le _, Nat.zero_le _⟩) hS (fun q _ h => h) (fun q h => h) (fun r14 S14 t H1 locs ht hvm hw14 hB hz1 hk1 hS => ?_)
            obtain ⟨hP, -⟩ := hB
            rw [ht] at hP
            obtain ⟨hw14, hSe14⟩ := hw14
            rw [hSe14] at hP
            refine lv_if_eq (tgt := 83) hx hb dX0_pass_72 (by decide) (fun c15 => ?_) (fun c15 => ?_)
            · refine lv_aload_n hx hb dX0_pass_83 rfl (lv_at hl 0 rfl) ?_
              refine lv_iload_n hx hb dX0_pass_84 rfl (lv_at hl 1 rfl) ?_
              refine va_calli (va_runV (As := [.int p1]) (rest := []) ⟨hx, hb, hml, hown, hts⟩ (c_X0_goOn l D a hO S p1 hI hn12) (cwV 1 hts gX0_pass_X0_goOn rfl rfl rfl hdX0_goOn ⟨Nat.le_of_ble_eq_true rfl, Nat.le_of_ble_eq_true rfl⟩) (xPreV hK hP) rfl rfl hl.1 rfl (lv_room (Nat.le_of_ble_eq_true rfl)) dX0_pass_85 ⟨Nat.zero_le _, Nat.zero_le _⟩) hS (fun q _ h => h) (fun q h => h) (fun r17 S17 t H1 locs ht hvm hw17 hB hz1 hk1 hS => ?_)
              obtain ⟨hP, -⟩ := hB
              rw [ht] at hP
              exact W.iret (v := r17) hx hb hr (fun t ht hW => ⟨⟨r17, S17, rfl, (by simp only [xF_pass, hw1, if_neg c2, hw4, if_pos c6, if_neg c8, hw9, if_pos c11, if_neg c13, hw14, if_pos c15, hw17]), by rw [ht]; exact hP, va_K.moved hW.alike hK⟩, hS.F ht⟩) hS.2.2 dX0_pass_88
            · refine lv_aload_n hx hb dX0_pass_75 rfl (lv_at hl 0 rfl) ?_
              refine lv_iload_n hx hb dX0_pass_76 rfl (lv_at hl 1 rfl) ?_
              refine va_calli (va_runV (As := [.int p1]) (rest := []) ⟨hx, hb, hml, hown, hts⟩ (c_X0_goOut l D a hO S p1 hI) (cwV 1 hts gX0_pass_X0_goOut rfl rfl rfl hdX0_goOut ⟨Nat.le_of_ble_eq_true rfl, Nat.le_of_ble_eq_true rfl⟩) (xPreV hK hP) rfl rfl hl.1 rfl (lv_room (Nat.le_of_ble_eq_true rfl)) dX0_pass_77 ⟨Nat.zero_le _, Nat.zero_le _⟩) hS (fun q _ h => h) (fun q h => h) (fun r20 S20 t H1 locs ht hvm hw20 hB hz1 hk1 hS => ?_)
              obtain ⟨hP, -⟩ := hB
              rw [ht] at hP
              refine lv_goto (tgt := 88) hx hb dX0_pass_80 (by decide) ?_
              exact W.iret (v := r20) hx hb hr (fun t ht hW => ⟨⟨r20, S20, rfl, (by simp only [xF_pass, hw1, if_neg c2, hw4, if_pos c6, if_neg c8, hw9, if_pos c11, if_neg c13, hw14, if_neg c15, hw20]), by rw [ht]; exact hP, va_K.moved hW.alike hK⟩, hS.F ht⟩) hS.2.2 dX0_pass_88
          · refine lv_bipush (v := (-3)) hx hb dX0_pass_64 (by decide) ?_
            exact W.iret (v := (-3)) hx hb hr (fun t ht hW => ⟨⟨(-3), S, rfl, (by simp only [xF_pass, hw1, if_neg c2, hw4, if_pos c6, if_neg c8, hw9, if_pos c11, if_pos c13]), by rw [ht]; exact hP, va_K.moved hW.alike hK⟩, hS.F ht⟩) hS.2.2 dX0_pass_66
        · refine lv_aload_n hx hb dX0_pass_48 rfl (lv_at hl 0 rfl) ?_
          refine x_get hx hb hts hu hown hK hP 9 (by decide) hf37 rfl (v := .int (xLf S9)) rfl dX0_pass_49 ?_
          exact W.iret (v := (xLf S9)) hx hb hr (fun t ht hW => ⟨⟨(xLf S9), S9, rfl, (by simp only [xF_pass, hw1, if_neg c2, hw4, if_pos c6, if_neg c8, hw9, if_neg c11]), by rw [ht]; exact hP, va_K.moved hW.alike hK⟩, hS.F ht⟩) hS.2.2 dX0_pass_52
      · refine lv_bipush (v := (-2)) hx hb dX0_pass_36 (by decide) ?_
        exact W.iret (v := (-2)) hx hb hr (fun t ht hW => ⟨⟨(-2), S, rfl, (by simp only [xF_pass, hw1, if_neg c2, hw4, if_pos c6, if_pos c8]), by rw [ht]; exact hP, va_K.moved hW.alike hK⟩, hS.F ht⟩) hS.2.2 dX0_pass_38
    · refine lv_aload_n hx hb dX0_pass_20 rfl (lv_at hl 0 rfl) ?_
      refine x_get hx hb hts hu hown hK hP 9 (by decide) hf37 rfl (v := .int (xLf S4)) rfl dX0_pass_21 ?_
      exact W.iret (v := (xLf S4)) hx hb hr (fun t ht hW => ⟨⟨(xLf S4), S4, rfl, (by simp only [xF_pass, hw1, if_neg c2, hw4, if_neg c6]), by rw [ht]; exact hP, va_K.moved hW.alike hK⟩, hS.F ht⟩) hS.2.2 dX0_pass_24
  · refine lv_ldc (v := (-300000)) hx hb hown hk57 dX0_pass_8 ?_
    exact W.iret (v := (-300000)) hx hb hr (fun t ht hW => ⟨⟨(-300000), S, rfl, (by simp only [xF_pass, hw1, if_pos c2]), by rw [ht]; exact hP, va_K.moved hW.alike hK⟩, hS.F ht⟩) hS.2.2 dX0_pass_10
