def mF_pass (S : MS) (p1 : Int32) : Int32 × MS := (if (mF_isChamber S p1) = 0 then ((-300000), S) else (let q4 := mF_cell (msFa S 0) 3 p1; (if (mFa q4.2) = 0 then (if q4.1 = 0 then ((-2), q4.2) else (let q91 := mF_cell q4.2 0 p1; (if (mFa q91.2) = 0 then (if q91.1 = 0 then ((-3), q91.2) else (if (p1 + 1) = (mN q91.2) then (let q157 := mF_cell q91.2 2 p1; (if (mFa q157.2) = 0 then (let q166 := mF_put (msOl (msOu q157.2 ((mOu q157.2) + 1)) ((mOl (msOu q157.2 ((mOu q157.2) + 1))) + q157.1)) 2 p1 0; (let q168 := mF_put q166 0 p1 0; (let q170 := mF_answer q168 q157.1; (q170.1, q170.2)))) else (let q160 := mF_put q157.2 2 p1 0; (let q162 := mF_put q160 0 p1 0; (let q164 := mF_answer q162 q157.1; (q164.1, q164.2)))))) else (let q135 := mF_cell q91.2 0 (p1 + 1); (if (mFa q135.2) = 0 then (if q135.1 = 0 then (let q148 := mF_moved q135.2 p1 q91.1; (let q150 := mF_put q148.2 2 p1 0; (let q152 := mF_put q150 0 p1 0; (let q154 := mF_answer q152 q148.1; (q154.1, q154.2))))) else ((-4), q135.2)) else (let q138 := mF_moved q135.2 p1 q91.1; (let q140 := mF_put q138.2 2 p1 0; (let q142 := mF_put q140 0 p1 0; (let q144 := mF_answer q142 q138.1; (q144.1, q144.2))))))))) else (if (p1 + 1) = (mN q91.2) then (let q117 := mF_cell q91.2 2 p1; (if (mFa q117.2) = 0 then (let q126 := mF_put (msOl (msOu q117.2 ((mOu q117.2) + 1)) ((mOl (msOu q117.2 ((mOu q117.2) + 1))) + q117.1)) 2 p1 0; (let q128 := mF_put q126 0 p1 0; (let q130 := mF_answer q128 q117.1; (q130.1, q130.2)))) else (let q120 := mF_put q117.2 2 p1 0; (let q122 := mF_put q120 0 p1 0; (let q124 := mF_answer q122 q117.1; (q124.1, q124.2)))))) else (let q95 := mF_cell q91.2 0 (p1 + 1); (if (mFa q95.2) = 0 then (if q95.1 = 0 then (let q108 := mF_moved q95.2 p1 q91.1; (let q110 := mF_put q108.2 2 p1 0; (let q112 := mF_put q110 0 p1 0; (let q114 := mF_answer q112 q108.1; (q114.1, q114.2))))) else ((-4), q95.2)) else (let q98 := mF_moved q95.2 p1 q91.1; (let q100 := mF_put q98.2 2 p1 0; (let q102 := mF_put q100 0 p1 0; (let q104 := mF_answer q102 q98.1; (q104.1, q104.2))))))))))) else (let q7 := mF_cell q4.2 0 p1; (if (mFa q7.2) = 0 then (if q7.1 = 0 then ((-3), q7.2) else (if (p1 + 1) = (mN q7.2) then (let q73 := mF_cell q7.2 2 p1; (if (mFa q73.2) = 0 then (let q82 := mF_put (msOl (msOu q73.2 ((mOu q73.2) + 1)) ((mOl (msOu q73.2 ((mOu q73.2) + 1))) + q73.1)) 2 p1 0; (let q84 := mF_put q82 0 p1 0; (let q86 := mF_answer q84 q73.1; (q86.1, q86.2)))) else (let q76 := mF_put q73.2 2 p1 0; (let q78 := mF_put q76 0 p1 0; (let q80 := mF_answer q78 q73.1; (q80.1, q80.2)))))) else (let q51 := mF_cell q7.2 0 (p1 + 1); (if (mFa q51.2) = 0 then (if q51.1 = 0 then (let q64 := mF_moved q51.2 p1 q7.1; (let q66 := mF_put q64.2 2 p1 0; (let q68 := mF_put q66 0 p1 0; (let q70 := mF_answer q68 q64.1; (q70.1, q70.2))))) else ((-4), q51.2)) else (let q54 := mF_moved q51.2 p1 q7.1; (let q56 := mF_put q54.2 2 p1 0; (let q58 := mF_put q56 0 p1 0; (let q60 := mF_answer q58 q54.1; (q60.1, q60.2))))))))) else (if (p1 + 1) = (mN q7.2) then (let q33 := mF_cell q7.2 2 p1; (if (mFa q33.2) = 0 then (let q42 := mF_put (msOl (msOu q33.2 ((mOu q33.2) + 1)) ((mOl (msOu q33.2 ((mOu q33.2) + 1))) + q33.1)) 2 p1 0; (let q44 := mF_put q42 0 p1 0; (let q46 := mF_answer q44 q33.1; (q46.1, q46.2)))) else (let q36 := mF_put q33.2 2 p1 0; (let q38 := mF_put q36 0 p1 0; (let q40 := mF_answer q38 q33.1; (q40.1, q40.2)))))) else (let q11 := mF_cell q7.2 0 (p1 + 1); (if (mFa q11.2) = 0 then (if q11.1 = 0 then (let q24 := mF_moved q11.2 p1 q7.1; (let q26 := mF_put q24.2 2 p1 0; (let q28 := mF_put q26 0 p1 0; (let q30 := mF_answer q28 q24.1; (q30.1, q30.2))))) else ((-4), q11.2)) else (let q14 := mF_moved q11.2 p1 q7.1; (let q16 := mF_put q14.2 2 p1 0; (let q18 := mF_put q16 0 p1 0; (let q20 := mF_answer q18 q14.1; (q20.1, q20.2)))))))))))))
theorem hdX1_pass : yX1_pass.cls = RX1 ∧ yX1_pass.cls ≠ "java/lang/invoke/MethodHandle" ∧ yX1_pass.cls ≠ "java/lang/invoke/VarHandle" ∧ (parseMethodDescriptor yX1_pass.desc).map (fun d => d.parameters.length) = some 1 := by decide +kernel
set_option maxHeartbeats 4000000 in
set_option maxRecDepth 100000 in
theorem c_X1_pass (l : Launch) (D : va_G) (a : MA) (hO : mOk a) (S : MS) (p1 : Int32) (hI : mI S) : Met l yX1_pass wsX1_pass ({ frames := 3, cells := 0, slots := 0, locals := 68 }) (va_Pc [.ref (ma a), .int p1] (mB D a S)) (mQi D a (mF_pass S p1)) 0 0 (mA a) := by
  refine Met.ofW (cc := cX1_pass) (maxL := 6) (ret := (some .int)) (by decide) rfl ?_
  intro p e s m args below meth c s₁ B hml hv
  obtain ⟨rfl, hP, hK⟩ := hv
  have hx := B.exec
  have hb := B.bytes
  have hr := B.returns
  have hts := atoms_spec (ws := wsX1_pass) B.pre
  have hown : s.vm.findClass RX1 = some m.cls := findClass_of_methodNamed B.named
  have hlocks := B.notSynchronized
  have hS : va_S (mA a) s.heap s.heap [] := va_S.rf
  have hP : va_P D vwCl (mW a S) s.heap := hP
  have hu : ∀ w ∈ wsX10, w ∈ wsX1_pass := fun _ h => List.mem_cons_of_mem _ (List.mem_append_right _ h)
  have hf23 := hts (.fieldLink RX1 23 "FlightBooksModel" "fault" "I") (by decide +kernel)
  have hf19 := hts (.fieldLink RX1 19 "FlightBooksModel" "chambers" "I") (by decide +kernel)
  have hf75 := hts (.fieldLink RX1 75 "FlightBooksModel" "out" "I") (by decide +kernel)
  have hf78 := hts (.fieldLink RX1 78 "FlightBooksModel" "outLoads" "I") (by decide +kernel)
  have hk50 := hts (.constant RX1 50 (-300000)) (by decide +kernel)
  have hl := lv_entry ([.ref (ma a), .int p1]) (n := 6) (Nat.le_of_ble_eq_true rfl)
  rw [lg_entry_eq]
  generalize (lg_sl ([.ref (ma a), .int p1]) ++ List.replicate (6 - (lg_sl ([.ref (ma a), .int p1])).length) Slot.unset).toArray = ls at hl ⊢
  have hl : lv_has ls 6 [(0, .ref (ma a)), (1, .int p1)] := hl
  refine lv_aload_n hx hb dX1_pass_0 rfl (lv_at hl 0 rfl) ?_
  refine lv_iload_n hx hb dX1_pass_1 rfl (lv_at hl 1 rfl) ?_
  refine va_calli (va_runV (As := [.int p1]) (rest := []) ⟨hx, hb, hml, hown, hts⟩ (c_X1_isChamber l D a hO S p1) (cwV 1 hts gX1_pass_X1_isChamber rfl rfl rfl hdX1_isChamber ⟨Nat.le_of_ble_eq_true rfl, Nat.le_of_ble_eq_true rfl⟩) (mPreV hK hP) rfl rfl hl.1 rfl (lv_room (Nat.le_of_ble_eq_true rfl)) dX1_pass_2 ⟨Nat.zero_le _, Nat.zero_le _⟩) hS (fun q _ h => h) (fun q h => h) (fun r1 S1 t H1 locs ht hvm hw1 hB hz1 hk1 hS => ?_)
  obtain ⟨hP, -⟩ := hB
  rw [ht] at hP
  obtain ⟨hw1, hSe1⟩ := hw1
  rw [hSe1] at hP
  refine lv_if_ne (tgt := 11) hx hb dX1_pass_5 (by decide) (fun c2 => ?_) (fun c2 => ?_)
  · have hn3 := me_cham hI hw1 c2
    refine lv_aload_n hx hb dX1_pass_11 rfl (lv_at hl 0 rfl) ?_
    refine lv_iconst (v := 0) hx hb dX1_pass_12 (by decide) ?_
    refine m_puti hx hb hts hu hown hO hK hP hS 11 (by decide) hf23 rfl rfl (by decide +kernel) (msFa S) (fun _ => rfl) (fun _ => rfl) dX1_pass_13 (fun H locs hP hS => ?_)
    have hI := mI_fault 0 hI
    refine lv_aload_n hx hb dX1_pass_16 rfl (lv_at hl 0 rfl) ?_
    refine lv_iconst (v := 3) hx hb dX1_pass_17 (by decide) ?_
    refine lv_iload_n hx hb dX1_pass_18 rfl (lv_at hl 1 rfl) ?_
    refine va_calli (va_runV (As := [.int 3, .int p1]) (rest := []) ⟨hx, hb, hml, hown, hts⟩ (c_X1_cell l D a hO (msFa S 0) 3 p1 hI vp_k3_5) (cwV 2 hts gX1_pass_X1_cell rfl rfl rfl hdX1_cell ⟨Nat.le_of_ble_eq_true rfl, Nat.le_of_ble_eq_true rfl⟩) (mPreV hK hP) rfl rfl hl.1 rfl (lv_room (Nat.le_of_ble_eq_true rfl)) dX1_pass_19 ⟨Nat.zero_le _, Nat.zero_le _⟩) hS (fun q _ h => h) (fun q h => h) (fun r4 S4 t H1 locs ht hvm hw4 hB hz1 hk1 hS => ?_)
    obtain ⟨hP, -⟩ := hB
    rw [ht] at hP
    have hI := mI_cell hI hw4
    refine lv_istore_n (lv' := [(2, .int r4), (0, .ref (ma a)), (1, .int p1)]) hx hb dX1_pass_22 rfl hl (by decide) rfl (fun ls hl => ?_)
    refine lv_aload_n hx hb dX1_pass_23 rfl (lv_at hl 1 rfl) ?_
    refine m_get hx hb hts hu hown hK hP 11 (by decide) hf23 rfl (v := .int (mFa S4)) rfl dX1_pass_24 ?_
    refine lv_if_ne (tgt := 37) hx hb dX1_pass_27 (by decide) (fun c6 => ?_) (fun c6 => ?_)
    · refine lv_aload_n hx hb dX1_pass_37 rfl (lv_at hl 1 rfl) ?_
      refine lv_iconst (v := 0) hx hb dX1_pass_38 (by decide) ?_
      refine lv_iload_n hx hb dX1_pass_39 rfl (lv_at hl 2 rfl) ?_
      refine va_calli (va_runV (As := [.int 0, .int p1]) (rest := []) ⟨hx, hb, hml, hown, hts⟩ (c_X1_cell l D a hO S4 0 p1 hI vp_k0_5) (cwV 2 hts gX1_pass_X1_cell rfl rfl rfl hdX1_cell ⟨Nat.le_of_ble_eq_true rfl, Nat.le_of_ble_eq_true rfl⟩) (mPreV hK hP) rfl rfl hl.1 rfl (lv_room (Nat.le_of_ble_eq_true rfl)) dX1_pass_40 ⟨Nat.zero_le _, Nat.zero_le _⟩) hS (fun q _ h => h) (fun q h => h) (fun r7 S7 t H1 locs ht hvm hw7 hB hz1 hk1 hS => ?_)
      obtain ⟨hP, -⟩ := hB
      rw [ht] at hP
      have hI := mI_cell hI hw7
      refine lv_istore_n (lv' := [(3, .int r7), (2, .int r4), (0, .ref (ma a)), (1, .int p1)]) hx hb dX1_pass_43 rfl hl (by decide) rfl (fun ls hl => ?_)
      refine lv_aload_n hx hb dX1_pass_44 rfl (lv_at hl 2 rfl) ?_
      refine m_get hx hb hts hu hown hK hP 11 (by decide) hf23 rfl (v := .int (mFa S7)) rfl dX1_pass_45 ?_
      refine lv_if_ne (tgt := 58) hx hb dX1_pass_48 (by decide) (fun c9 => ?_) (fun c9 => ?_)
      · refine lv_iconst (v := 0) hx hb dX1_pass_58 (by decide) ?_
        refine lv_istore (lv' := [(4, .int 0), (3, .int r7), (2, .int r4), (0, .ref (ma a)), (1, .int p1)]) hx hb dX1_pass_59 hl (by decide) rfl (fun ls hl => ?_)
        refine lv_iload_n hx hb dX1_pass_61 rfl (lv_at hl 4 rfl) ?_
        refine lv_iconst (v := 1) hx hb dX1_pass_62 (by decide) ?_
        refine lv_iadd hx hb dX1_pass_63 ?_
        refine lv_aload_n hx hb dX1_pass_64 rfl (lv_at hl 3 rfl) ?_
        refine m_get hx hb hts hu hown hK hP 0 (by decide) hf19 rfl (v := .int (mN S7)) rfl dX1_pass_65 ?_
        refine lv_icmp_ne (tgt := 110) hx hb dX1_pass_68 (by decide) (fun c10 => ?_) (fun c10 => ?_)
        · refine lv_aload_n hx hb dX1_pass_110 rfl (lv_at hl 3 rfl) ?_
          refine lv_iconst (v := 0) hx hb dX1_pass_111 (by decide) ?_
          refine lv_iload_n hx hb dX1_pass_112 rfl (lv_at hl 4 rfl) ?_
          refine lv_iconst (v := 1) hx hb dX1_pass_113 (by decide) ?_
          refine lv_iadd hx hb dX1_pass_114 ?_
          refine va_calli (va_runV (As := [.int 0, .int (p1 + 1)]) (rest := []) ⟨hx, hb, hml, hown, hts⟩ (c_X1_cell l D a hO S7 0 (p1 + 1) hI vp_k0_5) (cwV 2 hts gX1_pass_X1_cell rfl rfl rfl hdX1_cell ⟨Nat.le_of_ble_eq_true rfl, Nat.le_of_ble_eq_true rfl⟩) (mPreV hK hP) rfl rfl hl.1 rfl (lv_room (Nat.le_of_ble_eq_true rfl)) dX1_pass_115 ⟨Nat.zero_le _, Nat.zero_le _⟩) hS (fun q _ h => h) (fun q h => h) (fun r11 S11 t H1 locs ht hvm hw11 hB hz1 hk1 hS => ?_)
          obtain ⟨hP, -⟩ := hB
          rw [ht] at hP
          have hI := mI_cell hI hw11
          refine lv_istore (lv' := [(5, .int r11), (4, .int 0), (3, .int r7), (2, .int r4), (0, .ref (ma a)), (1, .int p1)]) hx hb dX1_pass_118 hl (by decide) rfl (fun ls hl => ?_)
          refine lv_aload_n hx hb dX1_pass_120 rfl (lv_at hl 4 rfl) ?_
          refine m_get hx hb hts hu hown hK hP 11 (by decide) hf23 rfl (v := .int (mFa S11)) rfl dX1_pass_121 ?_
          refine lv_if_ne (tgt := 135) hx hb dX1_pass_124 (by decide) (fun c13 => ?_) (fun c13 => ?_)
          · refine lv_aload_n hx hb dX1_pass_135 rfl (lv_at hl 4 rfl) ?_
            refine lv_iload_n hx hb dX1_pass_136 rfl (lv_at hl 5 rfl) ?_
            refine lv_iload_n hx hb dX1_pass_137 rfl (lv_at hl 2 rfl) ?_
            refine va_calli (va_runV (As := [.int p1, .int r7]) (rest := []) ⟨hx, hb, hml, hown, hts⟩ (c_X1_moved l D a hO S11 p1 r7 hI) (cwV 2 hts gX1_pass_X1_moved rfl rfl rfl hdX1_moved ⟨Nat.le_of_ble_eq_true rfl, Nat.le_of_ble_eq_true rfl⟩) (mPreV hK hP) rfl rfl hl.1 rfl (lv_room (Nat.le_of_ble_eq_true rfl)) dX1_pass_138 ⟨Nat.zero_le _, Nat.zero_le _⟩) hS (fun q _ h => h) (fun q h => h) (fun r14 S14 t H1 locs ht hvm hw14 hB hz1 hk1 hS => ?_)
            obtain ⟨hP, -⟩ := hB
            rw [ht] at hP
            have hI := mI_moved hI hw14
            refine lv_istore (lv' := [(4, .int r14), (5, .int r11), (3, .int r7), (2, .int r4), (0, .ref (ma a)), (1, .int p1)]) hx hb dX1_pass_141 hl (by decide) rfl (fun ls hl => ?_)
            refine lv_aload_n hx hb dX1_pass_143 rfl (lv_at hl 4 rfl) ?_
            refine lv_iconst (v := 2) hx hb dX1_pass_144 (by decide) ?_
            refine lv_iload_n hx hb dX1_pass_145 rfl (lv_at hl 5 rfl) ?_
            refine lv_iconst (v := 0) hx hb dX1_pass_146 (by decide) ?_
            refine va_callv (va_runV (As := [.int 2, .int p1, .int 0]) (rest := []) ⟨hx, hb, hml, hown, hts⟩ (c_X1_put l D a hO S14 2 p1 0 hI vp_k2_5) (cwV 3 hts gX1_pass_X1_put rfl rfl rfl hdX1_put ⟨Nat.le_of_ble_eq_true rfl, Nat.le_of_ble_eq_true rfl⟩) (mPreV hK hP) rfl rfl hl.1 rfl (lv_room (Nat.le_of_ble_eq_true rfl)) dX1_pass_147 ⟨Nat.zero_le _, Nat.zero_le _⟩) hS (fun q _ h => h) (fun q h => h) (fun S16 t H1 locs ht hvm hw16 hB hz1 hk1 hS => ?_)
            obtain ⟨hP, -⟩ := hB
            rw [ht] at hP
            have hI := mI_put hI hw16
            refine lv_aload_n hx hb dX1_pass_150 rfl (lv_at hl 4 rfl) ?_
            refine lv_iconst (v := 0) hx hb dX1_pass_151 (by decide) ?_
            refine lv_iload_n hx hb dX1_pass_152 rfl (lv_at hl 5 rfl) ?_
            refine lv_iconst (v := 0) hx hb dX1_pass_153 (by decide) ?_
            refine va_callv (va_runV (As := [.int 0, .int p1, .int 0]) (rest := []) ⟨hx, hb, hml, hown, hts⟩ (c_X1_put l D a hO S16 0 p1 0 hI vp_k0_5) (cwV 3 hts gX1_pass_X1_put rfl rfl rfl hdX1_put ⟨Nat.le_of_ble_eq_true rfl, Nat.le_of_ble_eq_true rfl⟩) (mPreV hK hP) rfl rfl hl.1 rfl (lv_room (Nat.le_of_ble_eq_true rfl)) dX1_pass_154 ⟨Nat.zero_le _, Nat.zero_le _⟩) hS (fun q _ h => h) (fun q h => h) (fun S18 t H1 locs ht hvm hw18 hB hz1 hk1 hS => ?_)
            obtain ⟨hP, -⟩ := hB
            rw [ht] at hP
            have hI := mI_put hI hw18
            refine lv_aload_n hx hb dX1_pass_157 rfl (lv_at hl 4 rfl) ?_
            refine lv_iload hx hb dX1_pass_158 (lv_at hl 0 rfl) ?_
            refine va_calli (va_runV (As := [.int r14]) (rest := []) ⟨hx, hb, hml, hown, hts⟩ (c_X1_answer l D a hO S18 r14) (cwV 1 hts gX1_pass_X1_answer rfl rfl rfl hdX1_answer ⟨Nat.le_of_ble_eq_true rfl, Nat.le_of_ble_eq_true rfl⟩) (mPreV hK hP) rfl rfl hl.1 rfl (lv_room (Nat.le_of_ble_eq_true rfl)) dX1_pass_160 ⟨Nat.zero_le _, Nat.zero_le _⟩) hS (fun q _ h => h) (fun q h => h) (fun r20 S20 t H1 locs ht hvm hw20 hB hz1 hk1 hS => ?_)
            obtain ⟨hP, -⟩ := hB
            rw [ht] at hP
            exact W.iret (v := r20) hx hb hr (fun t ht hW => ⟨⟨r20, S20, rfl, (by simp only [mF_pass, hw1, if_neg c2, hw4, if_neg c6, hw7, if_neg c9, if_neg c10, hw11, if_neg c13, hw14, hw16, hw18, hw20]), by rw [ht]; exact hP, va_K.moved hW.alike hK⟩, hS.F ht⟩) hS.2.2 dX1_pass_163
          · refine lv_iload hx hb dX1_pass_127 (lv_at hl 0 rfl) ?_
            refine lv_if_eq (tgt := 135) hx hb dX1_pass_129 (by decide) (fun c22 => ?_) (fun c22 => ?_)
            · refine lv_aload_n hx hb dX1_pass_135 rfl (lv_at hl 4 rfl) ?_
              refine lv_iload_n hx hb dX1_pass_136 rfl (lv_at hl 5 rfl) ?_
              refine lv_iload_n hx hb dX1_pass_137 rfl (lv_at hl 2 rfl) ?_
              refine va_calli (va_runV (As := [.int p1, .int r7]) (rest := []) ⟨hx, hb, hml, hown, hts⟩ (c_X1_moved l D a hO S11 p1 r7 hI) (cwV 2 hts gX1_pass_X1_moved rfl rfl rfl hdX1_moved ⟨Nat.le_of_ble_eq_true rfl, Nat.le_of_ble_eq_true rfl⟩) (mPreV hK hP) rfl rfl hl.1 rfl (lv_room (Nat.le_of_ble_eq_true rfl)) dX1_pass_138 ⟨Nat.zero_le _, Nat.zero_le _⟩) hS (fun q _ h => h) (fun q h => h) (fun r24 S24 t H1 locs ht hvm hw24 hB hz1 hk1 hS => ?_)
              obtain ⟨hP, -⟩ := hB
              rw [ht] at hP
              have hI := mI_moved hI hw24
              refine lv_istore (lv' := [(4, .int r24), (5, .int r11), (3, .int r7), (2, .int r4), (0, .ref (ma a)), (1, .int p1)]) hx hb dX1_pass_141 hl (by decide) rfl (fun ls hl => ?_)
              refine lv_aload_n hx hb dX1_pass_143 rfl (lv_at hl 4 rfl) ?_
              refine lv_iconst (v := 2) hx hb dX1_pass_144 (by decide) ?_
              refine lv_iload_n hx hb dX1_pass_145 rfl (lv_at hl 5 rfl) ?_
              refine lv_iconst (v := 0) hx hb dX1_pass_146 (by decide) ?_
              refine va_callv (va_runV (As := [.int 2, .int p1, .int 0]) (rest := []) ⟨hx, hb, hml, hown, hts⟩ (c_X1_put l D a hO S24 2 p1 0 hI vp_k2_5) (cwV 3 hts gX1_pass_X1_put rfl rfl rfl hdX1_put ⟨Nat.le_of_ble_eq_true rfl, Nat.le_of_ble_eq_true rfl⟩) (mPreV hK hP) rfl rfl hl.1 rfl (lv_room (Nat.le_of_ble_eq_true rfl)) dX1_pass_147 ⟨Nat.zero_le _, Nat.zero_le _⟩) hS (fun q _ h => h) (fun q h => h) (fun S26 t H1 locs ht hvm hw26 hB hz1 hk1 hS => ?_)
              obtain ⟨hP, -⟩ := hB
              rw [ht] at hP
              have hI := mI_put hI hw26
              refine lv_aload_n hx hb dX1_pass_150 rfl (lv_at hl 4 rfl) ?_
              refine lv_iconst (v := 0) hx hb dX1_pass_151 (by decide) ?_
              refine lv_iload_n hx hb dX1_pass_152 rfl (lv_at hl 5 rfl) ?_
              refine lv_iconst (v := 0) hx hb dX1_pass_153 (by decide) ?_
              refine va_callv (va_runV (As := [.int 0, .int p1, .int 0]) (rest := []) ⟨hx, hb, hml, hown, hts⟩ (c_X1_put l D a hO S26 0 p1 0 hI vp_k0_5) (cwV 3 hts gX1_pass_X1_put rfl rfl rfl hdX1_put ⟨Nat.le_of_ble_eq_true rfl, Nat.le_of_ble_eq_true rfl⟩) (mPreV hK hP) rfl rfl hl.1 rfl (lv_room (Nat.le_of_ble_eq_true rfl)) dX1_pass_154 ⟨Nat.zero_le _, Nat.zero_le _⟩) hS (fun q _ h => h) (fun q h => h) (fun S28 t H1 locs ht hvm hw28 hB hz1 hk1 hS => ?_)
              obtain ⟨hP, -⟩ := hB
              rw [ht] at hP
              have hI := mI_put hI hw28
              refine lv_aload_n hx hb dX1_pass_157 rfl (lv_at hl 4 rfl) ?_
              refine lv_iload hx hb dX1_pass_158 (lv_at hl 0 rfl) ?_
              refine va_calli (va_runV (As := [.int r24]) (rest := []) ⟨hx, hb, hml, hown, hts⟩ (c_X1_answer l D a hO S28 r24) (cwV 1 hts gX1_pass_X1_answer rfl rfl rfl hdX1_answer ⟨Nat.le_of_ble_eq_true rfl, Nat.le_of_ble_eq_true rfl⟩) (mPreV hK hP) rfl rfl hl.1 rfl (lv_room (Nat.le_of_ble_eq_true rfl)) dX1_pass_160 ⟨Nat.zero_le _, Nat.zero_le _⟩) hS (fun q _ h => h) (fun q h => h) (fun r30 S30 t H1 locs ht hvm hw30 hB hz1 hk1 hS => ?_)
              obtain ⟨hP, -⟩ := hB
              rw [ht] at hP
              exact W.iret (v := r30) hx hb hr (fun t ht hW => ⟨⟨r30, S30, rfl, (by simp only [mF_pass, hw1, if_neg c2, hw4, if_neg c6, hw7, if_neg c9, if_neg c10, hw11, if_pos c13, if_pos c22, hw24, hw26, hw28, hw30]), by rw [ht]; exact hP, va_K.moved hW.alike hK⟩, hS.F ht⟩) hS.2.2 dX1_pass_163
            · refine lv_bipush (v := (-4)) hx hb dX1_pass_132 (by decide) ?_
              exact W.iret (v := (-4)) hx hb hr (fun t ht hW => ⟨⟨(-4), S11, rfl, (by simp only [mF_pass, hw1, if_neg c2, hw4, if_neg c6, hw7, if_neg c9, if_neg c10, hw11, if_pos c13, if_neg c22]), by rw [ht]; exact hP, va_K.moved hW.alike hK⟩, hS.F ht⟩) hS.2.2 dX1_pass_134
        · refine lv_aload_n hx hb dX1_pass_71 rfl (lv_at hl 3 rfl) ?_
          refine lv_iconst (v := 2) hx hb dX1_pass_72 (by decide) ?_
          refine lv_iload_n hx hb dX1_pass_73 rfl (lv_at hl 4 rfl) ?_
          refine va_calli (va_runV (As := [.int 2, .int p1]) (rest := []) ⟨hx, hb, hml, hown, hts⟩ (c_X1_cell l D a hO S7 2 p1 hI vp_k2_5) (cwV 2 hts gX1_pass_X1_cell rfl rfl rfl hdX1_cell ⟨Nat.le_of_ble_eq_true rfl, Nat.le_of_ble_eq_true rfl⟩) (mPreV hK hP) rfl rfl hl.1 rfl (lv_room (Nat.le_of_ble_eq_true rfl)) dX1_pass_74 ⟨Nat.zero_le _, Nat.zero_le _⟩) hS (fun q _ h => h) (fun q h => h) (fun r33 S33 t H1 locs ht hvm hw33 hB hz1 hk1 hS => ?_)
          obtain ⟨hP, -⟩ := hB
          rw [ht] at hP
          have hI := mI_cell hI hw33
          refine lv_istore (lv' := [(4, .int r33), (3, .int r7), (2, .int r4), (0, .ref (ma a)), (1, .int p1)]) hx hb dX1_pass_77 hl (by decide) rfl (fun ls hl => ?_)
          refine lv_aload_n hx hb dX1_pass_79 rfl (lv_at hl 3 rfl) ?_
          refine m_get hx hb hts hu hown hK hP 11 (by decide) hf23 rfl (v := .int (mFa S33)) rfl dX1_pass_80 ?_
          refine lv_if_ne (tgt := 143) hx hb dX1_pass_83 (by decide) (fun c35 => ?_) (fun c35 => ?_)
          · refine lv_aload_n hx hb dX1_pass_143 rfl (lv_at hl 3 rfl) ?_
            refine lv_iconst (v := 2) hx hb dX1_pass_144 (by decide) ?_
            refine lv_iload_n hx hb dX1_pass_145 rfl (lv_at hl 4 rfl) ?_
            refine lv_iconst (v := 0) hx hb dX1_pass_146 (by decide) ?_
            refine va_callv (va_runV (As := [.int 2, .int p1, .int 0]) (rest := []) ⟨hx, hb, hml, hown, hts⟩ (c_X1_put l D a hO S33 2 p1 0 hI vp_k2_5) (cwV 3 hts gX1_pass_X1_put rfl rfl rfl hdX1_put ⟨Nat.le_of_ble_eq_true rfl, Nat.le_of_ble_eq_true rfl⟩) (mPreV hK hP) rfl rfl hl.1 rfl (lv_room (Nat.le_of_ble_eq_true rfl)) dX1_pass_147 ⟨Nat.zero_le _, Nat.zero_le _⟩) hS (fun q _ h => h) (fun q h => h) (fun S36 t H1 locs ht hvm hw36 hB hz1 hk1 hS => ?_)
            obtain ⟨hP, -⟩ := hB
            rw [ht] at hP
            have hI := mI_put hI hw36
            refine lv_aload_n hx hb dX1_pass_150 rfl (lv_at hl 3 rfl) ?_
            refine lv_iconst (v := 0) hx hb dX1_pass_151 (by decide) ?_
            refine lv_iload_n hx hb dX1_pass_152 rfl (lv_at hl 4 rfl) ?_
            refine lv_iconst (v := 0) hx hb dX1_pass_153 (by decide) ?_
            refine va_callv (va_runV (As := [.int 0, .int p1, .int 0]) (rest := []) ⟨hx, hb, hml, hown, hts⟩ (c_X1_put l D a hO S36 0 p1 0 hI vp_k0_5) (cwV 3 hts gX1_pass_X1_put rfl rfl rfl hdX1_put ⟨Nat.le_of_ble_eq_true rfl, Nat.le_of_ble_eq_true rfl⟩) (mPreV hK hP) rfl rfl hl.1 rfl (lv_room (Nat.le_of_ble_eq_true rfl)) dX1_pass_154 ⟨Nat.zero_le _, Nat.zero_le _⟩) hS (fun q _ h => h) (fun q h => h) (fun S38 t H1 locs ht hvm hw38 hB hz1 hk1 hS => ?_)
            obtain ⟨hP, -⟩ := hB
            rw [ht] at hP
            have hI := mI_put hI hw38
            refine lv_aload_n hx hb dX1_pass_157 rfl (lv_at hl 3 rfl) ?_
            refine lv_iload hx hb dX1_pass_158 (lv_at hl 0 rfl) ?_
            refine va_calli (va_runV (As := [.int r33]) (rest := []) ⟨hx, hb, hml, hown, hts⟩ (c_X1_answer l D a hO S38 r33) (cwV 1 hts gX1_pass_X1_answer rfl rfl rfl hdX1_answer ⟨Nat.le_of_ble_eq_true rfl, Nat.le_of_ble_eq_true rfl⟩) (mPreV hK hP) rfl rfl hl.1 rfl (lv_room (Nat.le_of_ble_eq_true rfl)) dX1_pass_160 ⟨Nat.zero_le _, Nat.zero_le _⟩) hS (fun q _ h => h) (fun q h => h) (fun r40 S40 t H1 locs ht hvm hw40 hB hz1 hk1 hS => ?_)
            obtain ⟨hP, -⟩ := hB
            rw [ht] at hP
            exact W.iret (v := r40) hx hb hr (fun t ht hW => ⟨⟨r40, S40, rfl, (by simp only [mF_pass, hw1, if_neg c2, hw4, if_neg c6, hw7, if_neg c9, if_pos c10, hw33, if_neg c35, hw36, hw38, hw40]), by rw [ht]; exact hP, va_K.moved hW.alike hK⟩, hS.F ht⟩) hS.2.2 dX1_pass_163
          · refine lv_aload_n hx hb dX1_pass_86 rfl (lv_at hl 3 rfl) ?_
            refine lv_dup hx hb dX1_pass_87 rfl ?_
            refine m_get hx hb hts hu hown hK hP 7 (by decide) hf75 rfl (v := .int (mOu S33)) rfl dX1_pass_88 ?_
            refine lv_iconst (v := 1) hx hb dX1_pass_91 (by decide) ?_
            refine lv_iadd hx hb dX1_pass_92 ?_
            refine m_puti hx hb hts hu hown hO hK hP hS 7 (by decide) hf75 rfl rfl (by decide +kernel) (msOu S33) (fun _ => rfl) (fun _ => rfl) dX1_pass_93 (fun H locs hP hS => ?_)
            have hI := mI_out ((mOu S33) + 1) hI
            refine lv_aload_n hx hb dX1_pass_96 rfl (lv_at hl 3 rfl) ?_
            refine lv_aload_n hx hb dX1_pass_97 rfl (lv_at hl 3 rfl) ?_
            refine m_get hx hb hts hu hown hK hP 8 (by decide) hf78 rfl (v := .int (mOl (msOu S33 ((mOu S33) + 1)))) rfl dX1_pass_98 ?_
            refine lv_iload hx hb dX1_pass_101 (lv_at hl 0 rfl) ?_
            refine lv_iadd hx hb dX1_pass_103 ?_
            refine m_puti hx hb hts hu hown hO hK hP hS 8 (by decide) hf78 rfl rfl (by decide +kernel) (msOl (msOu S33 ((mOu S33) + 1))) (fun _ => rfl) (fun _ => rfl) dX1_pass_104 (fun H locs hP hS => ?_)
            have hI := mI_outLoads ((mOl (msOu S33 ((mOu S33) + 1))) + r33) hI
            refine lv_goto (tgt := 143) hx hb dX1_pass_107 (by decide) ?_
            refine lv_aload_n hx hb dX1_pass_143 rfl (lv_at hl 3 rfl) ?_
            refine lv_iconst (v := 2) hx hb dX1_pass_144 (by decide) ?_
            refine lv_iload_n hx hb dX1_pass_145 rfl (lv_at hl 4 rfl) ?_
            refine lv_iconst (v := 0) hx hb dX1_pass_146 (by decide) ?_
            refine va_callv (va_runV (As := [.int 2, .int p1, .int 0]) (rest := []) ⟨hx, hb, hml, hown, hts⟩ (c_X1_put l D a hO (msOl (msOu S33 ((mOu S33) + 1)) ((mOl (msOu S33 ((mOu S33) + 1))) + r33)) 2 p1 0 hI vp_k2_5) (cwV 3 hts gX1_pass_X1_put rfl rfl rfl hdX1_put ⟨Nat.le_of_ble_eq_true rfl, Nat.le_of_ble_eq_true rfl⟩) (mPreV hK hP) rfl rfl hl.1 rfl (lv_room (Nat.le_of_ble_eq_true rfl)) dX1_pass_147 ⟨Nat.zero_le _, Nat.zero_le _⟩) hS (fun q _ h => h) (fun q h => h) (fun S42 t H1 locs ht hvm hw42 hB hz1 hk1 hS => ?_)
            obtain ⟨hP, -⟩ := hB
            rw [ht] at hP
            have hI := mI_put hI hw42
            refine lv_aload_n hx hb dX1_pass_150 rfl (lv_at hl 3 rfl) ?_
            refine lv_iconst (v := 0) hx hb dX1_pass_151 (by decide) ?_
            refine lv_iload_n hx hb dX1_pass_152 rfl (lv_at hl 4 rfl) ?_
            refine lv_iconst (v := 0) hx hb dX1_pass_153 (by decide) ?_
            refine va_callv (va_runV (As := [.int 0, .int p1, .int 0]) (rest := []) ⟨hx, hb, hml, hown, hts⟩ (c_X1_put l D a hO S42 0 p1 0 hI vp_k0_5) (cwV 3 hts gX1_pass_X1_put rfl rfl rfl hdX1_put ⟨Nat.le_of_ble_eq_true rfl, Nat.le_of_ble_eq_true rfl⟩) (mPreV hK hP) rfl rfl hl.1 rfl (lv_room (Nat.le_of_ble_eq_true rfl)) dX1_pass_154 ⟨Nat.zero_le _, Nat.zero_le _⟩) hS (fun q _ h => h) (fun q h => h) (fun S44 t H1 locs ht hvm hw44 hB hz1 hk1 hS => ?_)
            obtain ⟨hP, -⟩ := hB
            rw [ht] at hP
            have hI := mI_put hI hw44
            refine lv_aload_n hx hb dX1_pass_157 rfl (lv_at hl 3 rfl) ?_
            refine lv_iload hx hb dX1_pass_158 (lv_at hl 0 rfl) ?_
            refine va_calli (va_runV (As := [.int r33]) (rest := []) ⟨hx, hb, hml, hown, hts⟩ (c_X1_answer l D a hO S44 r33) (cwV 1 hts gX1_pass_X1_answer rfl rfl rfl hdX1_answer ⟨Nat.le_of_ble_eq_true rfl, Nat.le_of_ble_eq_true rfl⟩) (mPreV hK hP) rfl rfl hl.1 rfl (lv_room (Nat.le_of_ble_eq_true rfl)) dX1_pass_160 ⟨Nat.zero_le _, Nat.zero_le _⟩) hS (fun q _ h => h) (fun q h => h) (fun r46 S46 t H1 locs ht hvm hw46 hB hz1 hk1 hS => ?_)
            obtain ⟨hP, -⟩ := hB
            rw [ht] at hP
            exact W.iret (v := r46) hx hb hr (fun t ht hW => ⟨⟨r46, S46, rfl, (by simp only [mF_pass, hw1, if_neg c2, hw4, if_neg c6, hw7, if_neg c9, if_pos c10, hw33, if_pos c35, hw42, hw44, hw46]), by rw [ht]; exact hP, va_K.moved hW.alike hK⟩, hS.F ht⟩) hS.2.2 dX1_pass_163
      · refine lv_iload_n hx hb dX1_pass_51 rfl (lv_at hl 0 rfl) ?_
        refine lv_if_ne (tgt := 58) hx hb dX1_pass_52 (by decide) (fun c48 => ?_) (fun c48 => ?_)
        · refine lv_iconst (v := 0) hx hb dX1_pass_58 (by decide) ?_
          refine lv_istore (lv' := [(4, .int 0), (3, .int r7), (2, .int r4), (0, .ref (ma a)), (1, .int p1)]) hx hb dX1_pass_59 hl (by decide) rfl (fun ls hl => ?_)
          refine lv_iload_n hx hb dX1_pass_61 rfl (lv_at hl 4 rfl) ?_
          refine lv_iconst (v := 1) hx hb dX1_pass_62 (by decide) ?_
          refine lv_iadd hx hb dX1_pass_63 ?_
          refine lv_aload_n hx hb dX1_pass_64 rfl (lv_at hl 3 rfl) ?_
          refine m_get hx hb hts hu hown hK hP 0 (by decide) hf19 rfl (v := .int (mN S7)) rfl dX1_pass_65 ?_
          refine lv_icmp_ne (tgt := 110) hx hb dX1_pass_68 (by decide) (fun c50 => ?_) (fun c50 => ?_)
          · refine lv_aload_n hx hb dX1_pass_110 rfl (lv_at hl 3 rfl) ?_
            refine lv_iconst (v := 0) hx hb dX1_pass_111 (by decide) ?_
            refine lv_iload_n hx hb dX1_pass_112 rfl (lv_at hl 4 rfl) ?_
            refine lv_iconst (v := 1) hx hb dX1_pass_113 (by decide) ?_
            refine lv_iadd hx hb dX1_pass_114 ?_
            refine va_calli (va_runV (As := [.int 0, .int (p1 + 1)]) (rest := []) ⟨hx, hb, hml, hown, hts⟩ (c_X1_cell l D a hO S7 0 (p1 + 1) hI vp_k0_5) (cwV 2 hts gX1_pass_X1_cell rfl rfl rfl hdX1_cell ⟨Nat.le_of_ble_eq_true rfl, Nat.le_of_ble_eq_true rfl⟩) (mPreV hK hP) rfl rfl hl.1 rfl (lv_room (Nat.le_of_ble_eq_true rfl)) dX1_pass_115 ⟨Nat.zero_le _, Nat.zero_le _⟩) hS (fun q _ h => h) (fun q h => h) (fun r51 S51 t H1 locs ht hvm hw51 hB hz1 hk1 hS => ?_)
            obtain ⟨hP, -⟩ := hB
            rw [ht] at hP
            have hI := mI_cell hI hw51
            refine lv_istore (lv' := [(5, .int r51), (4, .int 0), (3, .int r7), (2, .int r4), (0, .ref (ma a)), (1, .int p1)]) hx hb dX1_pass_118 hl (by decide) rfl (fun ls hl => ?_)
            refine lv_aload_n hx hb dX1_pass_120 rfl (lv_at hl 4 rfl) ?_
            refine m_get hx hb hts hu hown hK hP 11 (by decide) hf23 rfl (v := .int (mFa S51)) rfl dX1_pass_121 ?_
            refine lv_if_ne (tgt := 135) hx hb dX1_pass_124 (by decide) (fun c53 => ?_) (fun c53 => ?_)
            · refine lv_aload_n hx hb dX1_pass_135 rfl (lv_at hl 4 rfl) ?_
              refine lv_iload_n hx hb dX1_pass_136 rfl (lv_at hl 5 rfl) ?_
              refine lv_iload_n hx hb dX1_pass_137 rfl (lv_at hl 2 rfl) ?_
              refine va_calli (va_runV (As := [.int p1, .int r7]) (rest := []) ⟨hx, hb, hml, hown, hts⟩ (c_X1_moved l D a hO S51 p1 r7 hI) (cwV 2 hts gX1_pass_X1_moved rfl rfl rfl hdX1_moved ⟨Nat.le_of_ble_eq_true rfl, Nat.le_of_ble_eq_true rfl⟩) (mPreV hK hP) rfl rfl hl.1 rfl (lv_room (Nat.le_of_ble_eq_true rfl)) dX1_pass_138 ⟨Nat.zero_le _, Nat.zero_le _⟩) hS (fun q _ h => h) (fun q h => h) (fun r54 S54 t H1 locs ht hvm hw54 hB hz1 hk1 hS => ?_)
              obtain ⟨hP, -⟩ := hB
              rw [ht] at hP
              have hI := mI_moved hI hw54
              refine lv_istore (lv' := [(4, .int r54), (5, .int r51), (3, .int r7), (2, .int r4), (0, .ref (ma a)), (1, .int p1)]) hx hb dX1_pass_141 hl (by decide) rfl (fun ls hl => ?_)
              refine lv_aload_n hx hb dX1_pass_143 rfl (lv_at hl 4 rfl) ?_
              refine lv_iconst (v := 2) hx hb dX1_pass_144 (by decide) ?_
              refine lv_iload_n hx hb dX1_pass_145 rfl (lv_at hl 5 rfl) ?_
              refine lv_iconst (v := 0) hx hb dX1_pass_146 (by decide) ?_
              refine va_callv (va_runV (As := [.int 2, .int p1, .int 0]) (rest := []) ⟨hx, hb, hml, hown, hts⟩ (c_X1_put l D a hO S54 2 p1 0 hI vp_k2_5) (cwV 3 hts gX1_pass_X1_put rfl rfl rfl hdX1_put ⟨Nat.le_of_ble_eq_true rfl, Nat.le_of_ble_eq_true rfl⟩) (mPreV hK hP) rfl rfl hl.1 rfl (lv_room (Nat.le_of_ble_eq_true rfl)) dX1_pass_147 ⟨Nat.zero_le _, Nat.zero_le _⟩) hS (fun q _ h => h) (fun q h => h) (fun S56 t H1 locs ht hvm hw56 hB hz1 hk1 hS => ?_)
              obtain ⟨hP, -⟩ := hB
              rw [ht] at hP
              have hI := mI_put hI hw56
              refine lv_aload_n hx hb dX1_pass_150 rfl (lv_at hl 4 rfl) ?_
              refine lv_iconst (v := 0) hx hb dX1_pass_151 (by decide) ?_
              refine lv_iload_n hx hb dX1_pass_152 rfl (lv_at hl 5 rfl) ?_
              refine lv_iconst (v := 0) hx hb dX1_pass_153 (by decide) ?_
              refine va_callv (va_runV (As := [.int 0, .int p1, .int 0]) (rest := []) ⟨hx, hb, hml, hown, hts⟩ (c_X1_put l D a hO S56 0 p1 0 hI vp_k0_5) (cwV 3 hts gX1_pass_X1_put rfl rfl rfl hdX1_put ⟨Nat.le_of_ble_eq_true rfl, Nat.le_of_ble_eq_true rfl⟩) (mPreV hK hP) rfl rfl hl.1 rfl (lv_room (Nat.le_of_ble_eq_true rfl)) dX1_pass_154 ⟨Nat.zero_le _, Nat.zero_le _⟩) hS (fun q _ h => h) (fun q h => h) (fun S58 t H1 locs ht hvm hw58 hB hz1 hk1 hS => ?_)
              obtain ⟨hP, -⟩ := hB
              rw [ht] at hP
              have hI := mI_put hI hw58
              refine lv_aload_n hx hb dX1_pass_157 rfl (lv_at hl 4 rfl) ?_
              refine lv_iload hx hb dX1_pass_158 (lv_at hl 0 rfl) ?_
              refine va_calli (va_runV (As := [.int r54]) (rest := []) ⟨hx, hb, hml, hown, hts⟩ (c_X1_answer l D a hO S58 r54) (cwV 1 hts gX1_pass_X1_answer rfl rfl rfl hdX1_answer ⟨Nat.le_of_ble_eq_true rfl, Nat.le_of_ble_eq_true rfl⟩) (mPreV hK hP) rfl rfl hl.1 rfl (lv_room (Nat.le_of_ble_eq_true rfl)) dX1_pass_160 ⟨Nat.zero_le _, Nat.zero_le _⟩) hS (fun q _ h => h) (fun q h => h) (fun r60 S60 t H1 locs ht hvm hw60 hB hz1 hk1 hS => ?_)
              obtain ⟨hP, -⟩ := hB
              rw [ht] at hP
              exact W.iret (v := r60) hx hb hr (fun t ht hW => ⟨⟨r60, S60, rfl, (by simp only [mF_pass, hw1, if_neg c2, hw4, if_neg c6, hw7, if_pos c9, if_neg c48, if_neg c50, hw51, if_neg c53, hw54, hw56, hw58, hw60]), by rw [ht]; exact hP, va_K.moved hW.alike hK⟩, hS.F ht⟩) hS.2.2 dX1_pass_163
            · refine lv_iload hx hb dX1_pass_127 (lv_at hl 0 rfl) ?_
              refine lv_if_eq (tgt := 135) hx hb dX1_pass_129 (by decide) (fun c62 => ?_) (fun c62 => ?_)
              · refine lv_aload_n hx hb dX1_pass_135 rfl (lv_at hl 4 rfl) ?_
                refine lv_iload_n hx hb dX1_pass_136 rfl (lv_at hl 5 rfl) ?_
                refine lv_iload_n hx hb dX1_pass_137 rfl (lv_at hl 2 rfl) ?_
                refine va_calli (va_runV (As := [.int p1, .int r7]) (rest := []) ⟨hx, hb, hml, hown, hts⟩ (c_X1_moved l D a hO S51 p1 r7 hI) (cwV 2 hts gX1_pass_X1_moved rfl rfl rfl hdX1_moved ⟨Nat.le_of_ble_eq_true rfl, Nat.le_of_ble_eq_true rfl⟩) (mPreV hK hP) rfl rfl hl.1 rfl (lv_room (Nat.le_of_ble_eq_true rfl)) dX1_pass_138 ⟨Nat.zero_le _, Nat.zero_le _⟩) hS (fun q _ h => h) (fun q h => h) (fun r64 S64 t H1 locs ht hvm hw64 hB hz1 hk1 hS => ?_)
                obtain ⟨hP, -⟩ := hB
                rw [ht] at hP
                have hI := mI_moved hI hw64
                refine lv_istore (lv' := [(4, .int r64), (5, .int r51), (3, .int r7), (2, .int r4), (0, .ref (ma a)), (1, .int p1)]) hx hb dX1_pass_141 hl (by decide) rfl (fun ls hl => ?_)
                refine lv_aload_n hx hb dX1_pass_143 rfl (lv_at hl 4 rfl) ?_
                refine lv_iconst (v := 2) hx hb dX1_pass_144 (by decide) ?_
                refine lv_iload_n hx hb dX1_pass_145 rfl (lv_at hl 5 rfl) ?_
                refine lv_iconst (v := 0) hx hb dX1_pass_146 (by decide) ?_
                refine va_callv (va_runV (As := [.int 2, .int p1, .int 0]) (rest := []) ⟨hx, hb, hml, hown, hts⟩ (c_X1_put l D a hO S64 2 p1 0 hI vp_k2_5) (cwV 3 hts gX1_pass_X1_put rfl rfl rfl hdX1_put ⟨Nat.le_of_ble_eq_true rfl, Nat.le_of_ble_eq_true rfl⟩) (mPreV hK hP) rfl rfl hl.1 rfl (lv_room (Nat.le_of_ble_eq_true rfl)) dX1_pass_147 ⟨Nat.zero_le _, Nat.zero_le _⟩) hS (fun q _ h => h) (fun q h => h) (fun S66 t H1 locs ht hvm hw66 hB hz1 hk1 hS => ?_)
                obtain ⟨hP, -⟩ := hB
                rw [ht] at hP
                have hI := mI_put hI hw66
                refine lv_aload_n hx hb dX1_pass_150 rfl (lv_at hl 4 rfl) ?_
                refine lv_iconst (v := 0) hx hb dX1_pass_151 (by decide) ?_
                refine lv_iload_n hx hb dX1_pass_152 rfl (lv_at hl 5 rfl) ?_
                refine lv_iconst (v := 0) hx hb dX1_pass_153 (by decide) ?_
                refine va_callv (va_runV (As := [.int 0, .int p1, .int 0]) (rest := []) ⟨hx, hb, hml, hown, hts⟩ (c_X1_put l D a hO S66 0 p1 0 hI vp_k0_5) (cwV 3 hts gX1_pass_X1_put rfl rfl rfl hdX1_put ⟨Nat.le_of_ble_eq_true rfl, Nat.le_of_ble_eq_true rfl⟩) (mPreV hK hP) rfl rfl hl.1 rfl (lv_room (Nat.le_of_ble_eq_true rfl)) dX1_pass_154 ⟨Nat.zero_le _, Nat.zero_le _⟩) hS (fun q _ h => h) (fun q h => h) (fun S68 t H1 locs ht hvm hw68 hB hz1 hk1 hS => ?_)
                obtain ⟨hP, -⟩ := hB
                rw [ht] at hP
                have hI := mI_put hI hw68
                refine lv_aload_n hx hb dX1_pass_157 rfl (lv_at hl 4 rfl) ?_
                refine lv_iload hx hb dX1_pass_158 (lv_at hl 0 rfl) ?_
                refine va_calli (va_runV (As := [.int r64]) (rest := []) ⟨hx, hb, hml, hown, hts⟩ (c_X1_answer l D a hO S68 r64) (cwV 1 hts gX1_pass_X1_answer rfl rfl rfl hdX1_answer ⟨Nat.le_of_ble_eq_true rfl, Nat.le_of_ble_eq_true rfl⟩) (mPreV hK hP) rfl rfl hl.1 rfl (lv_room (Nat.le_of_ble_eq_true rfl)) dX1_pass_160 ⟨Nat.zero_le _, Nat.zero_le _⟩) hS (fun q _ h => h) (fun q h => h) (fun r70 S70 t H1 locs ht hvm hw70 hB hz1 hk1 hS => ?_)
                obtain ⟨hP, -⟩ := hB
                rw [ht] at hP
                exact W.iret (v := r70) hx hb hr (fun t ht hW => ⟨⟨r70, S70, rfl, (by simp only [mF_pass, hw1, if_neg c2, hw4, if_neg c6, hw7, if_pos c9, if_neg c48, if_neg c50, hw51, if_pos c53, if_pos c62, hw64, hw66, hw68, hw70]), by rw [ht]; exact hP, va_K.moved hW.alike hK⟩, hS.F ht⟩) hS.2.2 dX1_pass_163
              · refine lv_bipush (v := (-4)) hx hb dX1_pass_132 (by decide) ?_
                exact W.iret (v := (-4)) hx hb hr (fun t ht hW => ⟨⟨(-4), S51, rfl, (by simp only [mF_pass, hw1, if_neg c2, hw4, if_neg c6, hw7, if_pos c9, if_neg c48, if_neg c50, hw51, if_pos c53, if_neg c62]), by rw [ht]; exact hP, va_K.moved hW.alike hK⟩, hS.F ht⟩) hS.2.2 dX1_pass_134
          · refine lv_aload_n hx hb dX1_pass_71 rfl (lv_at hl 3 rfl) ?_
            refine lv_iconst (v := 2) hx hb dX1_pass_72 (by decide) ?_
            refine lv_iload_n hx hb dX1_pass_73 rfl (lv_at hl 4 rfl) ?_
            refine va_calli (va_runV (As := [.int 2, .int p1]) (rest := []) ⟨hx, hb, hml, hown, hts⟩ (c_X1_cell l D a hO S7 2 p1 hI vp_k2_5) (cwV 2 hts gX1_pass_X1_cell rfl rfl rfl hdX1_cell ⟨Nat.le_of_ble_eq_true rfl, Nat.le_of_ble_eq_true rfl⟩) (mPreV hK hP) rfl rfl hl.1 rfl (lv_room (Nat.le_of_ble_eq_true rfl)) dX1_pass_74 ⟨Nat.zero_le _, Nat.zero_le _⟩) hS (fun q _ h => h) (fun q h => h) (fun r73 S73 t H1 locs ht hvm hw73 hB hz1 hk1 hS => ?_)
            obtain ⟨hP, -⟩ := hB
            rw [ht] at hP
            have hI := mI_cell hI hw73
            refine lv_istore (lv' := [(4, .int r73), (3, .int r7), (2, .int r4), (0, .ref (ma a)), (1, .int p1)]) hx hb dX1_pass_77 hl (by decide) rfl (fun ls hl => ?_)
            refine lv_aload_n hx hb dX1_pass_79 rfl (lv_at hl 3 rfl) ?_
            refine m_get hx hb hts hu hown hK hP 11 (by decide) hf23 rfl (v := .int (mFa S73)) rfl dX1_pass_80 ?_
            refine lv_if_ne (tgt := 143) hx hb dX1_pass_83 (by decide) (fun c75 => ?_) (fun c75 => ?_)
            · refine lv_aload_n hx hb dX1_pass_143 rfl (lv_at hl 3 rfl) ?_
              refine lv_iconst (v := 2) hx hb dX1_pass_144 (by decide) ?_
              refine lv_iload_n hx hb dX1_pass_145 rfl (lv_at hl 4 rfl) ?_
              refine lv_iconst (v := 0) hx hb dX1_pass_146 (by decide) ?_
              refine va_callv (va_runV (As := [.int 2, .int p1, .int 0]) (rest := []) ⟨hx, hb, hml, hown, hts⟩ (c_X1_put l D a hO S73 2 p1 0 hI vp_k2_5) (cwV 3 hts gX1_pass_X1_put rfl rfl rfl hdX1_put ⟨Nat.le_of_ble_eq_true rfl, Nat.le_of_ble_eq_true rfl⟩) (mPreV hK hP) rfl rfl hl.1 rfl (lv_room (Nat.le_of_ble_eq_true rfl)) dX1_pass_147 ⟨Nat.zero_le _, Nat.zero_le _⟩) hS (fun q _ h => h) (fun q h => h) (fun S76 t H1 locs ht hvm hw76 hB hz1 hk1 hS => ?_)
              obtain ⟨hP, -⟩ := hB
              rw [ht] at hP
              have hI := mI_put hI hw76
              refine lv_aload_n hx hb dX1_pass_150 rfl (lv_at hl 3 rfl) ?_
              refine lv_iconst (v := 0) hx hb dX1_pass_151 (by decide) ?_
              refine lv_iload_n hx hb dX1_pass_152 rfl (lv_at hl 4 rfl) ?_
              refine lv_iconst (v := 0) hx hb dX1_pass_153 (by decide) ?_
              refine va_callv (va_runV (As := [.int 0, .int p1, .int 0]) (rest := []) ⟨hx, hb, hml, hown, hts⟩ (c_X1_put l D a hO S76 0 p1 0 hI vp_k0_5) (cwV 3 hts gX1_pass_X1_put rfl rfl rfl hdX1_put ⟨Nat.le_of_ble_eq_true rfl, Nat.le_of_ble_eq_true rfl⟩) (mPreV hK hP) rfl rfl hl.1 rfl (lv_room (Nat.le_of_ble_eq_true rfl)) dX1_pass_154 ⟨Nat.zero_le _, Nat.zero_le _⟩) hS (fun q _ h => h) (fun q h => h) (fun S78 t H1 locs ht hvm hw78 hB hz1 hk1 hS => ?_)
              obtain ⟨hP, -⟩ := hB
              rw [ht] at hP
              have hI := mI_put hI hw78
              refine lv_aload_n hx hb dX1_pass_157 rfl (lv_at hl 3 rfl) ?_
              refine lv_iload hx hb dX1_pass_158 (lv_at hl 0 rfl) ?_
              refine va_calli (va_runV (As := [.int r73]) (rest := []) ⟨hx, hb, hml, hown, hts⟩ (c_X1_answer l D a hO S78 r73) (cwV 1 hts gX1_pass_X1_answer rfl rfl rfl hdX1_answer ⟨Nat.le_of_ble_eq_true rfl, Nat.le_of_ble_eq_true rfl⟩) (mPreV hK hP) rfl rfl hl.1 rfl (lv_room (Nat.le_of_ble_eq_true rfl)) dX1_pass_160 ⟨Nat.zero_le _, Nat.zero_le _⟩) hS (fun q _ h => h) (fun q h => h) (fun r80 S80 t H1 locs ht hvm hw80 hB hz1 hk1 hS => ?_)
              obtain ⟨hP, -⟩ := hB
              rw [ht] at hP
              exact W.iret (v := r80) hx hb hr (fun t ht hW => ⟨⟨r80, S80, rfl, (by simp only [mF_pass, hw1, if_neg c2, hw4, if_neg c6, hw7, if_pos c9, if_neg c48, if_pos c50, hw73, if_neg c75, hw76, hw78, hw80]), by rw [ht]; exact hP, va_K.moved hW.alike hK⟩, hS.F ht⟩) hS.2.2 dX1_pass_163
            · refine lv_aload_n hx hb dX1_pass_86 rfl (lv_at hl 3 rfl) ?_
              refine lv_dup hx hb dX1_pass_87 rfl ?_
              refine m_get hx hb hts hu hown hK hP 7 (by decide) hf75 rfl (v := .int (mOu S73)) rfl dX1_pass_88 ?_
              refine lv_iconst (v := 1) hx hb dX1_pass_91 (by decide) ?_
              refine lv_iadd hx hb dX1_pass_92 ?_
              refine m_puti hx hb hts hu hown hO hK hP hS 7 (by decide) hf75 rfl rfl (by decide +kernel) (msOu S73) (fun _ => rfl) (fun _ => rfl) dX1_pass_93 (fun H locs hP hS => ?_)
              have hI := mI_out ((mOu S73) + 1) hI
              refine lv_aload_n hx hb dX1_pass_96 rfl (lv_at hl 3 rfl) ?_
              refine lv_aload_n hx hb dX1_pass_97 rfl (lv_at hl 3 rfl) ?_
              refine m_get hx hb hts hu hown hK hP 8 (by decide) hf78 rfl (v := .int (mOl (msOu S73 ((mOu S73) + 1)))) rfl dX1_pass_98 ?_
              refine lv_iload hx hb dX1_pass_101 (lv_at hl 0 rfl) ?_
              refine lv_iadd hx hb dX1_pass_103 ?_
              refine m_puti hx hb hts hu hown hO hK hP hS 8 (by decide) hf78 rfl rfl (by decide +kernel) (msOl (msOu S73 ((mOu S73) + 1))) (fun _ => rfl) (fun _ => rfl) dX1_pass_104 (fun H locs hP hS => ?_)
              have hI := mI_outLoads ((mOl (msOu S73 ((mOu S73) + 1))) + r73) hI
              refine lv_goto (tgt := 143) hx hb dX1_pass_107 (by decide) ?_
              refine lv_aload_n hx hb dX1_pass_143 rfl (lv_at hl 3 rfl) ?_
              refine lv_iconst (v := 2) hx hb dX1_pass_144 (by decide) ?_
              refine lv_iload_n hx hb dX1_pass_145 rfl (lv_at hl 4 rfl) ?_
              refine lv_iconst (v := 0) hx hb dX1_pass_146 (by decide) ?_
              refine va_callv (va_runV (As := [.int 2, .int p1, .int 0]) (rest := []) ⟨hx, hb, hml, hown, hts⟩ (c_X1_put l D a hO (msOl (msOu S73 ((mOu S73) + 1)) ((mOl (msOu S73 ((mOu S73) + 1))) + r73)) 2 p1 0 hI vp_k2_5) (cwV 3 hts gX1_pass_X1_put rfl rfl rfl hdX1_put ⟨Nat.le_of_ble_eq_true rfl, Nat.le_of_ble_eq_true rfl⟩) (mPreV hK hP) rfl rfl hl.1 rfl (lv_room (Nat.le_of_ble_eq_true rfl)) dX1_pass_147 ⟨Nat.zero_le _, Nat.zero_le _⟩) hS (fun q _ h => h) (fun q h => h) (fun S82 t H1 locs ht hvm hw82 hB hz1 hk1 hS => ?_)
              obtain ⟨hP, -⟩ := hB
              rw [ht] at hP
              have hI := mI_put hI hw82
              refine lv_aload_n hx hb dX1_pass_150 rfl (lv_at hl 3 rfl) ?_
              refine lv_iconst (v := 0) hx hb dX1_pass_151 (by decide) ?_
              refine lv_iload_n hx hb dX1_pass_152 rfl (lv_at hl 4 rfl) ?_
              refine lv_iconst (v := 0) hx hb dX1_pass_153 (by decide) ?_
              refine va_callv (va_runV (As := [.int 0, .int p1, .int 0]) (rest := []) ⟨hx, hb, hml, hown, hts⟩ (c_X1_put l D a hO S82 0 p1 0 hI vp_k0_5) (cwV 3 hts gX1_pass_X1_put rfl rfl rfl hdX1_put ⟨Nat.le_of_ble_eq_true rfl, Nat.le_of_ble_eq_true rfl⟩) (mPreV hK hP) rfl rfl hl.1 rfl (lv_room (Nat.le_of_ble_eq_true rfl)) dX1_pass_154 ⟨Nat.zero_le _, Nat.zero_le _⟩) hS (fun q _ h => h) (fun q h => h) (fun S84 t H1 locs ht hvm hw84 hB hz1 hk1 hS => ?_)
              obtain ⟨hP, -⟩ := hB
              rw [ht] at hP
              have hI := mI_put hI hw84
              refine lv_aload_n hx hb dX1_pass_157 rfl (lv_at hl 3 rfl) ?_
              refine lv_iload hx hb dX1_pass_158 (lv_at hl 0 rfl) ?_
              refine va_calli (va_runV (As := [.int r73]) (rest := []) ⟨hx, hb, hml, hown, hts⟩ (c_X1_answer l D a hO S84 r73) (cwV 1 hts gX1_pass_X1_answer rfl rfl rfl hdX1_answer ⟨Nat.le_of_ble_eq_true rfl, Nat.le_of_ble_eq_true rfl⟩) (mPreV hK hP) rfl rfl hl.1 rfl (lv_room (Nat.le_of_ble_eq_true rfl)) dX1_pass_160 ⟨Nat.zero_le _, Nat.zero_le _⟩) hS (fun q _ h => h) (fun q h => h) (fun r86 S86 t H1 locs ht hvm hw86 hB hz1 hk1 hS => ?_)
              obtain ⟨hP, -⟩ := hB
              rw [ht] at hP
              exact W.iret (v := r86) hx hb hr (fun t ht hW => ⟨⟨r86, S86, rfl, (by simp only [mF_pass, hw1, if_neg c2, hw4, if_neg c6, hw7, if_pos c9, if_neg c48, if_pos c50, hw73, if_pos c75, hw82, hw84, hw86]), by rw [ht]; exact hP, va_K.moved hW.alike hK⟩, hS.F ht⟩) hS.2.2 dX1_pass_163
        · refine lv_bipush (v := (-3)) hx hb dX1_pass_55 (by decide) ?_
          exact W.iret (v := (-3)) hx hb hr (fun t ht hW => ⟨⟨(-3), S7, rfl, (by simp only [mF_pass, hw1, if_neg c2, hw4, if_neg c6, hw7, if_pos c9, if_pos c48]), by rw [ht]; exact hP, va_K.moved hW.alike hK⟩, hS.F ht⟩) hS.2.2 dX1_pass_57
    · refine lv_iload_n hx hb dX1_pass_30 rfl (lv_at hl 0 rfl) ?_
      refine lv_if_ne (tgt := 37) hx hb dX1_pass_31 (by decide) (fun c89 => ?_) (fun c89 => ?_)
      · refine lv_aload_n hx hb dX1_pass_37 rfl (lv_at hl 1 rfl) ?_
        refine lv_iconst (v := 0) hx hb dX1_pass_38 (by decide) ?_
        refine lv_iload_n hx hb dX1_pass_39 rfl (lv_at hl 2 rfl) ?_
        refine va_calli (va_runV (As := [.int 0, .int p1]) (rest := []) ⟨hx, hb, hml, hown, hts⟩ (c_X1_cell l D a hO S4 0 p1 hI vp_k0_5) (cwV 2 hts gX1_pass_X1_cell rfl rfl rfl hdX1_cell ⟨Nat.le_of_ble_eq_true rfl, Nat.le_of_ble_eq_true rfl⟩) (mPreV hK hP) rfl rfl hl.1 rfl (lv_room (Nat.le_of_ble_eq_true rfl)) dX1_pass_40 ⟨Nat.zero_le _, Nat.zero_le _⟩) hS (fun q _ h => h) (fun q h => h) (fun r91 S91 t H1 locs ht hvm hw91 hB hz1 hk1 hS => ?_)
        obtain ⟨hP, -⟩ := hB
        rw [ht] at hP
        have hI := mI_cell hI hw91
        refine lv_istore_n (lv' := [(3, .int r91), (2, .int r4), (0, .ref (ma a)), (1, .int p1)]) hx hb dX1_pass_43 rfl hl (by decide) rfl (fun ls hl => ?_)
        refine lv_aload_n hx hb dX1_pass_44 rfl (lv_at hl 2 rfl) ?_
        refine m_get hx hb hts hu hown hK hP 11 (by decide) hf23 rfl (v := .int (mFa S91)) rfl dX1_pass_45 ?_
        refine lv_if_ne (tgt := 58) hx hb dX1_pass_48 (by decide) (fun c93 => ?_) (fun c93 => ?_)
        · refine lv_iconst (v := 0) hx hb dX1_pass_58 (by decide) ?_
          refine lv_istore (lv' := [(4, .int 0), (3, .int r91), (2, .int r4), (0, .ref (ma a)), (1, .int p1)]) hx hb dX1_pass_59 hl (by decide) rfl (fun ls hl => ?_)
          refine lv_iload_n hx hb dX1_pass_61 rfl (lv_at hl 4 rfl) ?_
          refine lv_iconst (v := 1) hx hb dX1_pass_62 (by decide) ?_
          refine lv_iadd hx hb dX1_pass_63 ?_
          refine lv_aload_n hx hb dX1_pass_64 rfl (lv_at hl 3 rfl) ?_
          refine m_get hx hb hts hu hown hK hP 0 (by decide) hf19 rfl (v := .int (mN S91)) rfl dX1_pass_65 ?_
          refine lv_icmp_ne (tgt := 110) hx hb dX1_pass_68 (by decide) (fun c94 => ?_) (fun c94 => ?_)
          · refine lv_aload_n hx hb dX1_pass_110 rfl (lv_at hl 3 rfl) ?_
            refine lv_iconst (v := 0) hx hb dX1_pass_111 (by decide) ?_
            refine lv_iload_n hx hb dX1_pass_112 rfl (lv_at hl 4 rfl) ?_
            refine lv_iconst (v := 1) hx hb dX1_pass_113 (by decide) ?_
            refine lv_iadd hx hb dX1_pass_114 ?_
            refine va_calli (va_runV (As := [.int 0, .int (p1 + 1)]) (rest := []) ⟨hx, hb, hml, hown, hts⟩ (c_X1_cell l D a hO S91 0 (p1 + 1) hI vp_k0_5) (cwV 2 hts gX1_pass_X1_cell rfl rfl rfl hdX1_cell ⟨Nat.le_of_ble_eq_true rfl, Nat.le_of_ble_eq_true rfl⟩) (mPreV hK hP) rfl rfl hl.1 rfl (lv_room (Nat.le_of_ble_eq_true rfl)) dX1_pass_115 ⟨Nat.zero_le _, Nat.zero_le _⟩) hS (fun q _ h => h) (fun q h => h) (fun r95 S95 t H1 locs ht hvm hw95 hB hz1 hk1 hS => ?_)
            obtain ⟨hP, -⟩ := hB
            rw [ht] at hP
            have hI := mI_cell hI hw95
            refine lv_istore (lv' := [(5, .int r95), (4, .int 0), (3, .int r91), (2, .int r4), (0, .ref (ma a)), (1, .int p1)]) hx hb dX1_pass_118 hl (by decide) rfl (fun ls hl => ?_)
            refine lv_aload_n hx hb dX1_pass_120 rfl (lv_at hl 4 rfl) ?_
            refine m_get hx hb hts hu hown hK hP 11 (by decide) hf23 rfl (v := .int (mFa S95)) rfl dX1_pass_121 ?_
            refine lv_if_ne (tgt := 135) hx hb dX1_pass_124 (by decide) (fun c97 => ?_) (fun c97 => ?_)
            · refine lv_aload_n hx hb dX1_pass_135 rfl (lv_at hl 4 rfl) ?_
              refine lv_iload_n hx hb dX1_pass_136 rfl (lv_at hl 5 rfl) ?_
              refine lv_iload_n hx hb dX1_pass_137 rfl (lv_at hl 2 rfl) ?_
              refine va_calli (va_runV (As := [.int p1, .int r91]) (rest := []) ⟨hx, hb, hml, hown, hts⟩ (c_X1_moved l D a hO S95 p1 r91 hI) (cwV 2 hts gX1_pass_X1_moved rfl rfl rfl hdX1_moved ⟨Nat.le_of_ble_eq_true rfl, Nat.le_of_ble_eq_true rfl⟩) (mPreV hK hP) rfl rfl hl.1 rfl (lv_room (Nat.le_of_ble_eq_true rfl)) dX1_pass_138 ⟨Nat.zero_le _, Nat.zero_le _⟩) hS (fun q _ h => h) (fun q h => h) (fun r98 S98 t H1 locs ht hvm hw98 hB hz1 hk1 hS => ?_)
              obtain ⟨hP, -⟩ := hB
              rw [ht] at hP
              have hI := mI_moved hI hw98
              refine lv_istore (lv' := [(4, .int r98), (5, .int r95), (3, .int r91), (2, .int r4), (0, .ref (ma a)), (1, .int p1)]) hx hb dX1_pass_141 hl (by decide) rfl (fun ls hl => ?_)
              refine lv_aload_n hx hb dX1_pass_143 rfl (lv_at hl 4 rfl) ?_
              refine lv_iconst (v := 2) hx hb dX1_pass_144 (by decide) ?_
              refine lv_iload_n hx hb dX1_pass_145 rfl (lv_at hl 5 rfl) ?_
              refine lv_iconst (v := 0) hx hb dX1_pass_146 (by decide) ?_
              refine va_callv (va_runV (As := [.int 2, .int p1, .int 0]) (rest := []) ⟨hx, hb, hml, hown, hts⟩ (c_X1_put l D a hO S98 2 p1 0 hI vp_k2_5) (cwV 3 hts gX1_pass_X1_put rfl rfl rfl hdX1_put ⟨Nat.le_of_ble_eq_true rfl, Nat.le_of_ble_eq_true rfl⟩) (mPreV hK hP) rfl rfl hl.1 rfl (lv_room (Nat.le_of_ble_eq_true rfl)) dX1_pass_147 ⟨Nat.zero_le _, Nat.zero_le _⟩) hS (fun q _ h => h) (fun q h => h) (fun S100 t H1 locs ht hvm hw100 hB hz1 hk1 hS => ?_)
              obtain ⟨hP, -⟩ := hB
              rw [ht] at hP
              have hI := mI_put hI hw100
              refine lv_aload_n hx hb dX1_pass_150 rfl (lv_at hl 4 rfl) ?_
              refine lv_iconst (v := 0) hx hb dX1_pass_151 (by decide) ?_
              refine lv_iload_n hx hb dX1_pass_152 rfl (lv_at hl 5 rfl) ?_
              refine lv_iconst (v := 0) hx hb dX1_pass_153 (by decide) ?_
              refine va_callv (va_runV (As := [.int 0, .int p1, .int 0]) (rest := []) ⟨hx, hb, hml, hown, hts⟩ (c_X1_put l D a hO S100 0 p1 0 hI vp_k0_5) (cwV 3 hts gX1_pass_X1_put rfl rfl rfl hdX1_put ⟨Nat.le_of_ble_eq_true rfl, Nat.le_of_ble_eq_true rfl⟩) (mPreV hK hP) rfl rfl hl.1 rfl (lv_room (Nat.le_of_ble_eq_true rfl)) dX1_pass_154 ⟨Nat.zero_le _, Nat.zero_le _⟩) hS (fun q _ h => h) (fun q h => h) (fun S102 t H1 locs ht hvm hw102 hB hz1 hk1 hS => ?_)
              obtain ⟨hP, -⟩ := hB
              rw [ht] at hP
              have hI := mI_put hI hw102
              refine lv_aload_n hx hb dX1_pass_157 rfl (lv_at hl 4 rfl) ?_
              refine lv_iload hx hb dX1_pass_158 (lv_at hl 0 rfl) ?_
              refine va_calli (va_runV (As := [.int r98]) (rest := []) ⟨hx, hb, hml, hown, hts⟩ (c_X1_answer l D a hO S102 r98) (cwV 1 hts gX1_pass_X1_answer rfl rfl rfl hdX1_answer ⟨Nat.le_of_ble_eq_true rfl, Nat.le_of_ble_eq_true rfl⟩) (mPreV hK hP) rfl rfl hl.1 rfl (lv_room (Nat.le_of_ble_eq_true rfl)) dX1_pass_160 ⟨Nat.zero_le _, Nat.zero_le _⟩) hS (fun q _ h => h) (fun q h => h) (fun r104 S104 t H1 locs ht hvm hw104 hB hz1 hk1 hS => ?_)
              obtain ⟨hP, -⟩ := hB
              rw [ht] at hP
              exact W.iret (v := r104) hx hb hr (fun t ht hW => ⟨⟨r104, S104, rfl, (by simp only [mF_pass, hw1, if_neg c2, hw4, if_pos c6, if_neg c89, hw91, if_neg c93, if_neg c94, hw95, if_neg c97, hw98, hw100, hw102, hw104]), by rw [ht]; exact hP, va_K.moved hW.alike hK⟩, hS.F ht⟩) hS.2.2 dX1_pass_163
            · refine lv_iload hx hb dX1_pass_127 (lv_at hl 0 rfl) ?_
              refine lv_if_eq (tgt := 135) hx hb dX1_pass_129 (by decide) (fun c106 => ?_) (fun c106 => ?_)
              · refine lv_aload_n hx hb dX1_pass_135 rfl (lv_at hl 4 rfl) ?_
                refine lv_iload_n hx hb dX1_pass_136 rfl (lv_at hl 5 rfl) ?_
                refine lv_iload_n hx hb dX1_pass_137 rfl (lv_at hl 2 rfl) ?_
                refine va_calli (va_runV (As := [.int p1, .int r91]) (rest := []) ⟨hx, hb, hml, hown, hts⟩ (c_X1_moved l D a hO S95 p1 r91 hI) (cwV 2 hts gX1_pass_X1_moved rfl rfl rfl hdX1_moved ⟨Nat.le_of_ble_eq_true rfl, Nat.le_of_ble_eq_true rfl⟩) (mPreV hK hP) rfl rfl hl.1 rfl (lv_room (Nat.le_of_ble_eq_true rfl)) dX1_pass_138 ⟨Nat.zero_le _, Nat.zero_le _⟩) hS (fun q _ h => h) (fun q h => h) (fun r108 S108 t H1 locs ht hvm hw108 hB hz1 hk1 hS => ?_)
                obtain ⟨hP, -⟩ := hB
                rw [ht] at hP
                have hI := mI_moved hI hw108
                refine lv_istore (lv' := [(4, .int r108), (5, .int r95), (3, .int r91), (2, .int r4), (0, .ref (ma a)), (1, .int p1)]) hx hb dX1_pass_141 hl (by decide) rfl (fun ls hl => ?_)
                refine lv_aload_n hx hb dX1_pass_143 rfl (lv_at hl 4 rfl) ?_
                refine lv_iconst (v := 2) hx hb dX1_pass_144 (by decide) ?_
                refine lv_iload_n hx hb dX1_pass_145 rfl (lv_at hl 5 rfl) ?_
                refine lv_iconst (v := 0) hx hb dX1_pass_146 (by decide) ?_
                refine va_callv (va_runV (As := [.int 2, .int p1, .int 0]) (rest := []) ⟨hx, hb, hml, hown, hts⟩ (c_X1_put l D a hO S108 2 p1 0 hI vp_k2_5) (cwV 3 hts gX1_pass_X1_put rfl rfl rfl hdX1_put ⟨Nat.le_of_ble_eq_true rfl, Nat.le_of_ble_eq_true rfl⟩) (mPreV hK hP) rfl rfl hl.1 rfl (lv_room (Nat.le_of_ble_eq_true rfl)) dX1_pass_147 ⟨Nat.zero_le _, Nat.zero_le _⟩) hS (fun q _ h => h) (fun q h => h) (fun S110 t H1 locs ht hvm hw110 hB hz1 hk1 hS => ?_)
                obtain ⟨hP, -⟩ := hB
                rw [ht] at hP
                have hI := mI_put hI hw110
                refine lv_aload_n hx hb dX1_pass_150 rfl (lv_at hl 4 rfl) ?_
                refine lv_iconst (v := 0) hx hb dX1_pass_151 (by decide) ?_
                refine lv_iload_n hx hb dX1_pass_152 rfl (lv_at hl 5 rfl) ?_
                refine lv_iconst (v := 0) hx hb dX1_pass_153 (by decide) ?_
                refine va_callv (va_runV (As := [.int 0, .int p1, .int 0]) (rest := []) ⟨hx, hb, hml, hown, hts⟩ (c_X1_put l D a hO S110 0 p1 0 hI vp_k0_5) (cwV 3 hts gX1_pass_X1_put rfl rfl rfl hdX1_put ⟨Nat.le_of_ble_eq_true rfl, Nat.le_of_ble_eq_true rfl⟩) (mPreV hK hP) rfl rfl hl.1 rfl (lv_room (Nat.le_of_ble_eq_true rfl)) dX1_pass_154 ⟨Nat.zero_le _, Nat.zero_le _⟩) hS (fun q _ h => h) (fun q h => h) (fun S112 t H1 locs ht hvm hw112 hB hz1 hk1 hS => ?_)
                obtain ⟨hP, -⟩ := hB
                rw [ht] at hP
                have hI := mI_put hI hw112
                refine lv_aload_n hx hb dX1_pass_157 rfl (lv_at hl 4 rfl) ?_
                refine lv_iload hx hb dX1_pass_158 (lv_at hl 0 rfl) ?_
                refine va_calli (va_runV (As := [.int r108]) (rest := []) ⟨hx, hb, hml, hown, hts⟩ (c_X1_answer l D a hO S112 r108) (cwV 1 hts gX1_pass_X1_answer rfl rfl rfl hdX1_answer ⟨Nat.le_of_ble_eq_true rfl, Nat.le_of_ble_eq_true rfl⟩) (mPreV hK hP) rfl rfl hl.1 rfl (lv_room (Nat.le_of_ble_eq_true rfl)) dX1_pass_160 ⟨Nat.zero_le _, Nat.zero_le _⟩) hS (fun q _ h => h) (fun q h => h) (fun r114 S114 t H1 locs ht hvm hw114 hB hz1 hk1 hS => ?_)
                obtain ⟨hP, -⟩ := hB
                rw [ht] at hP
                exact W.iret (v := r114) hx hb hr (fun t ht hW => ⟨⟨r114, S114, rfl, (by simp only [mF_pass, hw1, if_neg c2, hw4, if_pos c6, if_neg c89, hw91, if_neg c93, if_neg c94, hw95, if_pos c97, if_pos c106, hw108, hw110, hw112, hw114]), by rw [ht]; exact hP, va_K.moved hW.alike hK⟩, hS.F ht⟩) hS.2.2 dX1_pass_163
              · refine lv_bipush (v := (-4)) hx hb dX1_pass_132 (by decide) ?_
                exact W.iret (v := (-4)) hx hb hr (fun t ht hW => ⟨⟨(-4), S95, rfl, (by simp only [mF_pass, hw1, if_neg c2, hw4, if_pos c6, if_neg c89, hw91, if_neg c93, if_neg c94, hw95, if_pos c97, if_neg c106]), by rw [ht]; exact hP, va_K.moved hW.alike hK⟩, hS.F ht⟩) hS.2.2 dX1_pass_134
          · refine lv_aload_n hx hb dX1_pass_71 rfl (lv_at hl 3 rfl) ?_
            refine lv_iconst (v := 2) hx hb dX1_pass_72 (by decide) ?_
            refine lv_iload_n hx hb dX1_pass_73 rfl (lv_at hl 4 rfl) ?_
            refine va_calli (va_runV (As := [.int 2, .int p1]) (rest := []) ⟨hx, hb, hml, hown, hts⟩ (c_X1_cell l D a hO S91 2 p1 hI vp_k2_5) (cwV 2 hts gX1_pass_X1_cell rfl rfl rfl hdX1_cell ⟨Nat.le_of_ble_eq_true rfl, Nat.le_of_ble_eq_true rfl⟩) (mPreV hK hP) rfl rfl hl.1 rfl (lv_room (Nat.le_of_ble_eq_true rfl)) dX1_pass_74 ⟨Nat.zero_le _, Nat.zero_le _⟩) hS (fun q _ h => h) (fun q h => h) (fun r117 S117 t H1 locs ht hvm hw117 hB hz1 hk1 hS => ?_)
            obtain ⟨hP, -⟩ := hB
            rw [ht] at hP
            have hI := mI_cell hI hw117
            refine lv_istore (lv' := [(4, .int r117), (3, .int r91), (2, .int r4), (0, .ref (ma a)), (1, .int p1)]) hx hb dX1_pass_77 hl (by decide) rfl (fun ls hl => ?_)
            refine lv_aload_n hx hb dX1_pass_79 rfl (lv_at hl 3 rfl) ?_
            refine m_get hx hb hts hu hown hK hP 11 (by decide) hf23 rfl (v := .int (mFa S117)) rfl dX1_pass_80 ?_
            refine lv_if_ne (tgt := 143) hx hb dX1_pass_83 (by decide) (fun c119 => ?_) (fun c119 => ?_)
            · refine lv_aload_n hx hb dX1_pass_143 rfl (lv_at hl 3 rfl) ?_
              refine lv_iconst (v := 2) hx hb dX1_pass_144 (by decide) ?_
              refine lv_iload_n hx hb dX1_pass_145 rfl (lv_at hl 4 rfl) ?_
              refine lv_iconst (v := 0) hx hb dX1_pass_146 (by decide) ?_
              refine va_callv (va_runV (As := [.int 2, .int p1, .int 0]) (rest := []) ⟨hx, hb, hml, hown, hts⟩ (c_X1_put l D a hO S117 2 p1 0 hI vp_k2_5) (cwV 3 hts gX1_pass_X1_put rfl rfl rfl hdX1_put ⟨Nat.le_of_ble_eq_true rfl, Nat.le_of_ble_eq_true rfl⟩) (mPreV hK hP) rfl rfl hl.1 rfl (lv_room (Nat.le_of_ble_eq_true rfl)) dX1_pass_147 ⟨Nat.zero_le _, Nat.zero_le _⟩) hS (fun q _ h => h) (fun q h => h) (fun S120 t H1 locs ht hvm hw120 hB hz1 hk1 hS => ?_)
              obtain ⟨hP, -⟩ := hB
              rw [ht] at hP
              have hI := mI_put hI hw120
              refine lv_aload_n hx hb dX1_pass_150 rfl (lv_at hl 3 rfl) ?_
              refine lv_iconst (v := 0) hx hb dX1_pass_151 (by decide) ?_
              refine lv_iload_n hx hb dX1_pass_152 rfl (lv_at hl 4 rfl) ?_
              refine lv_iconst (v := 0) hx hb dX1_pass_153 (by decide) ?_
              refine va_callv (va_runV (As := [.int 0, .int p1, .int 0]) (rest := []) ⟨hx, hb, hml, hown, hts⟩ (c_X1_put l D a hO S120 0 p1 0 hI vp_k0_5) (cwV 3 hts gX1_pass_X1_put rfl rfl rfl hdX1_put ⟨Nat.le_of_ble_eq_true rfl, Nat.le_of_ble_eq_true rfl⟩) (mPreV hK hP) rfl rfl hl.1 rfl (lv_room (Nat.le_of_ble_eq_true rfl)) dX1_pass_154 ⟨Nat.zero_le _, Nat.zero_le _⟩) hS (fun q _ h => h) (fun q h => h) (fun S122 t H1 locs ht hvm hw122 hB hz1 hk1 hS => ?_)
              obtain ⟨hP, -⟩ := hB
              rw [ht] at hP
              have hI := mI_put hI hw122
              refine lv_aload_n hx hb dX1_pass_157 rfl (lv_at hl 3 rfl) ?_
              refine lv_iload hx hb dX1_pass_158 (lv_at hl 0 rfl) ?_
              refine va_calli (va_runV (As := [.int r117]) (rest := []) ⟨hx, hb, hml, hown, hts⟩ (c_X1_answer l D a hO S122 r117) (cwV 1 hts gX1_pass_X1_answer rfl rfl rfl hdX1_answer ⟨Nat.le_of_ble_eq_true rfl, Nat.le_of_ble_eq_true rfl⟩) (mPreV hK hP) rfl rfl hl.1 rfl (lv_room (Nat.le_of_ble_eq_true rfl)) dX1_pass_160 ⟨Nat.zero_le _, Nat.zero_le _⟩) hS (fun q _ h => h) (fun q h => h) (fun r124 S124 t H1 locs ht hvm hw124 hB hz1 hk1 hS => ?_)
              obtain ⟨hP, -⟩ := hB
              rw [ht] at hP
              exact W.iret (v := r124) hx hb hr (fun t ht hW => ⟨⟨r124, S124, rfl, (by simp only [mF_pass, hw1, if_neg c2, hw4, if_pos c6, if_neg c89, hw91, if_neg c93, if_pos c94, hw117, if_neg c119, hw120, hw122, hw124]), by rw [ht]; exact hP, va_K.moved hW.alike hK⟩, hS.F ht⟩) hS.2.2 dX1_pass_163
            · refine lv_aload_n hx hb dX1_pass_86 rfl (lv_at hl 3 rfl) ?_
              refine lv_dup hx hb dX1_pass_87 rfl ?_
              refine m_get hx hb hts hu hown hK hP 7 (by decide) hf75 rfl (v := .int (mOu S117)) rfl dX1_pass_88 ?_
              refine lv_iconst (v := 1) hx hb dX1_pass_91 (by decide) ?_
              refine lv_iadd hx hb dX1_pass_92 ?_
              refine m_puti hx hb hts hu hown hO hK hP hS 7 (by decide) hf75 rfl rfl (by decide +kernel) (msOu S117) (fun _ => rfl) (fun _ => rfl) dX1_pass_93 (fun H locs hP hS => ?_)
              have hI := mI_out ((mOu S117) + 1) hI
              refine lv_aload_n hx hb dX1_pass_96 rfl (lv_at hl 3 rfl) ?_
              refine lv_aload_n hx hb dX1_pass_97 rfl (lv_at hl 3 rfl) ?_
              refine m_get hx hb hts hu hown hK hP 8 (by decide) hf78 rfl (v := .int (mOl (msOu S117 ((mOu S117) + 1)))) rfl dX1_pass_98 ?_
              refine lv_iload hx hb dX1_pass_101 (lv_at hl 0 rfl) ?_
              refine lv_iadd hx hb dX1_pass_103 ?_
              refine m_puti hx hb hts hu hown hO hK hP hS 8 (by decide) hf78 rfl rfl (by decide +kernel) (msOl (msOu S117 ((mOu S117) + 1))) (fun _ => rfl) (fun _ => rfl) dX1_pass_104 (fun H locs hP hS => ?_)
              have hI := mI_outLoads ((mOl (msOu S117 ((mOu S117) + 1))) + r117) hI
              refine lv_goto (tgt := 143) hx hb dX1_pass_107 (by decide) ?_
              refine lv_aload_n hx hb dX1_pass_143 rfl (lv_at hl 3 rfl) ?_
              refine lv_iconst (v := 2) hx hb dX1_pass_144 (by decide) ?_
              refine lv_iload_n hx hb dX1_pass_145 rfl (lv_at hl 4 rfl) ?_
              refine lv_iconst (v := 0) hx hb dX1_pass_146 (by decide) ?_
              refine va_callv (va_runV (As := [.int 2, .int p1, .int 0]) (rest := []) ⟨hx, hb, hml, hown, hts⟩ (c_X1_put l D a hO (msOl (msOu S117 ((mOu S117) + 1)) ((mOl (msOu S117 ((mOu S117) + 1))) + r117)) 2 p1 0 hI vp_k2_5) (cwV 3 hts gX1_pass_X1_put rfl rfl rfl hdX1_put ⟨Nat.le_of_ble_eq_true rfl, Nat.le_of_ble_eq_true rfl⟩) (mPreV hK hP) rfl rfl hl.1 rfl (lv_room (Nat.le_of_ble_eq_true rfl)) dX1_pass_147 ⟨Nat.zero_le _, Nat.zero_le _⟩) hS (fun q _ h => h) (fun q h => h) (fun S126 t H1 locs ht hvm hw126 hB hz1 hk1 hS => ?_)
              obtain ⟨hP, -⟩ := hB
              rw [ht] at hP
              have hI := mI_put hI hw126
              refine lv_aload_n hx hb dX1_pass_150 rfl (lv_at hl 3 rfl) ?_
              refine lv_iconst (v := 0) hx hb dX1_pass_151 (by decide) ?_
              refine lv_iload_n hx hb dX1_pass_152 rfl (lv_at hl 4 rfl) ?_
              refine lv_iconst (v := 0) hx hb dX1_pass_153 (by decide) ?_
              refine va_callv (va_runV (As := [.int 0, .int p1, .int 0]) (rest := []) ⟨hx, hb, hml, hown, hts⟩ (c_X1_put l D a hO S126 0 p1 0 hI vp_k0_5) (cwV 3 hts gX1_pass_X1_put rfl rfl rfl hdX1_put ⟨Nat.le_of_ble_eq_true rfl, Nat.le_of_ble_eq_true rfl⟩) (mPreV hK hP) rfl rfl hl.1 rfl (lv_room (Nat.le_of_ble_eq_true rfl)) dX1_pass_154 ⟨Nat.zero_le _, Nat.zero_le _⟩) hS (fun q _ h => h) (fun q h => h) (fun S128 t H1 locs ht hvm hw128 hB hz1 hk1 hS => ?_)
              obtain ⟨hP, -⟩ := hB
              rw [ht] at hP
              have hI := mI_put hI hw128
              refine lv_aload_n hx hb dX1_pass_157 rfl (lv_at hl 3 rfl) ?_
              refine lv_iload hx hb dX1_pass_158 (lv_at hl 0 rfl) ?_
              refine va_calli (va_runV (As := [.int r117]) (rest := []) ⟨hx, hb, hml, hown, hts⟩ (c_X1_answer l D a hO S128 r117) (cwV 1 hts gX1_pass_X1_answer rfl rfl rfl hdX1_answer ⟨Nat.le_of_ble_eq_true rfl, Nat.le_of_ble_eq_true rfl⟩) (mPreV hK hP) rfl rfl hl.1 rfl (lv_room (Nat.le_of_ble_eq_true rfl)) dX1_pass_160 ⟨Nat.zero_le _, Nat.zero_le _⟩) hS (fun q _ h => h) (fun q h => h) (fun r130 S130 t H1 locs ht hvm hw130 hB hz1 hk1 hS => ?_)
              obtain ⟨hP, -⟩ := hB
              rw [ht] at hP
              exact W.iret (v := r130) hx hb hr (fun t ht hW => ⟨⟨r130, S130, rfl, (by simp only [mF_pass, hw1, if_neg c2, hw4, if_pos c6, if_neg c89, hw91, if_neg c93, if_pos c94, hw117, if_pos c119, hw126, hw128, hw130]), by rw [ht]; exact hP, va_K.moved hW.alike hK⟩, hS.F ht⟩) hS.2.2 dX1_pass_163
        · refine lv_iload_n hx hb dX1_pass_51 rfl (lv_at hl 0 rfl) ?_
          refine lv_if_ne (tgt := 58) hx hb dX1_pass_52 (by decide) (fun c132 => ?_) (fun c132 => ?_)
          · refine lv_iconst (v := 0) hx hb dX1_pass_58 (by decide) ?_
            refine lv_istore (lv' := [(4, .int 0), (3, .int r91), (2, .int r4), (0, .ref (ma a)), (1, .int p1)]) hx hb dX1_pass_59 hl (by decide) rfl (fun ls hl => ?_)
            refine lv_iload_n hx hb dX1_pass_61 rfl (lv_at hl 4 rfl) ?_
            refine lv_iconst (v := 1) hx hb dX1_pass_62 (by decide) ?_
            refine lv_iadd hx hb dX1_pass_63 ?_
            refine lv_aload_n hx hb dX1_pass_64 rfl (lv_at hl 3 rfl) ?_
            refine m_get hx hb hts hu hown hK hP 0 (by decide) hf19 rfl (v := .int (mN S91)) rfl dX1_pass_65 ?_
            refine lv_icmp_ne (tgt := 110) hx hb dX1_pass_68 (by decide) (fun c134 => ?_) (fun c134 => ?_)
            · refine lv_aload_n hx hb dX1_pass_110 rfl (lv_at hl 3 rfl) ?_
              refine lv_iconst (v := 0) hx hb dX1_pass_111 (by decide) ?_
              refine lv_iload_n hx hb dX1_pass_112 rfl (lv_at hl 4 rfl) ?_
              refine lv_iconst (v := 1) hx hb dX1_pass_113 (by decide) ?_
              refine lv_iadd hx hb dX1_pass_114 ?_
              refine va_calli (va_runV (As := [.int 0, .int (p1 + 1)]) (rest := []) ⟨hx, hb, hml, hown, hts⟩ (c_X1_cell l D a hO S91 0 (p1 + 1) hI vp_k0_5) (cwV 2 hts gX1_pass_X1_cell rfl rfl rfl hdX1_cell ⟨Nat.le_of_ble_eq_true rfl, Nat.le_of_ble_eq_true rfl⟩) (mPreV hK hP) rfl rfl hl.1 rfl (lv_room (Nat.le_of_ble_eq_true rfl)) dX1_pass_115 ⟨Nat.zero_le _, Nat.zero_le _⟩) hS (fun q _ h => h) (fun q h => h) (fun r135 S135 t H1 locs ht hvm hw135 hB hz1 hk1 hS => ?_)
              obtain ⟨hP, -⟩ := hB
              rw [ht] at hP
              have hI := mI_cell hI hw135
              refine lv_istore (lv' := [(5, .int r135), (4, .int 0), (3, .int r91), (2, .int r4), (0, .ref (ma a)), (1, .int p1)]) hx hb dX1_pass_118 hl (by decide) rfl (fun ls hl => ?_)
              refine lv_aload_n hx hb dX1_pass_120 rfl (lv_at hl 4 rfl) ?_
              refine m_get hx hb hts hu hown hK hP 11 (by decide) hf23 rfl (v := .int (mFa S135)) rfl dX1_pass_121 ?_
              refine lv_if_ne (tgt := 135) hx hb dX1_pass_124 (by decide) (fun c137 => ?_) (fun c137 => ?_)
              · refine lv_aload_n hx hb dX1_pass_135 rfl (lv_at hl 4 rfl) ?_
                refine lv_iload_n hx hb dX1_pass_136 rfl (lv_at hl 5 rfl) ?_
                refine lv_iload_n hx hb dX1_pass_137 rfl (lv_at hl 2 rfl) ?_
                refine va_calli (va_runV (As := [.int p1, .int r91]) (rest := []) ⟨hx, hb, hml, hown, hts⟩ (c_X1_moved l D a hO S135 p1 r91 hI) (cwV 2 hts gX1_pass_X1_moved rfl rfl rfl hdX1_moved ⟨Nat.le_of_ble_eq_true rfl, Nat.le_of_ble_eq_true rfl⟩) (mPreV hK hP) rfl rfl hl.1 rfl (lv_room (Nat.le_of_ble_eq_true rfl)) dX1_pass_138 ⟨Nat.zero_le _, Nat.zero_le _⟩) hS (fun q _ h => h) (fun q h => h) (fun r138 S138 t H1 locs ht hvm hw138 hB hz1 hk1 hS => ?_)
                obtain ⟨hP, -⟩ := hB
                rw [ht] at hP
                have hI := mI_moved hI hw138
                refine lv_istore (lv' := [(4, .int r138), (5, .int r135), (3, .int r91), (2, .int r4), (0, .ref (ma a)), (1, .int p1)]) hx hb dX1_pass_141 hl (by decide) rfl (fun ls hl => ?_)
                refine lv_aload_n hx hb dX1_pass_143 rfl (lv_at hl 4 rfl) ?_
                refine lv_iconst (v := 2) hx hb dX1_pass_144 (by decide) ?_
                refine lv_iload_n hx hb dX1_pass_145 rfl (lv_at hl 5 rfl) ?_
                refine lv_iconst (v := 0) hx hb dX1_pass_146 (by decide) ?_
                refine va_callv (va_runV (As := [.int 2, .int p1, .int 0]) (rest := []) ⟨hx, hb, hml, hown, hts⟩ (c_X1_put l D a hO S138 2 p1 0 hI vp_k2_5) (cwV 3 hts gX1_pass_X1_put rfl rfl rfl hdX1_put ⟨Nat.le_of_ble_eq_true rfl, Nat.le_of_ble_eq_true rfl⟩) (mPreV hK hP) rfl rfl hl.1 rfl (lv_room (Nat.le_of_ble_eq_true rfl)) dX1_pass_147 ⟨Nat.zero_le _, Nat.zero_le _⟩) hS (fun q _ h => h) (fun q h => h) (fun S140 t H1 locs ht hvm hw140 hB hz1 hk1 hS => ?_)
                obtain ⟨hP, -⟩ := hB
                rw [ht] at hP
                have hI := mI_put hI hw140
                refine lv_aload_n hx hb dX1_pass_150 rfl (lv_at hl 4 rfl) ?_
                refine lv_iconst (v := 0) hx hb dX1_pass_151 (by decide) ?_
                refine lv_iload_n hx hb dX1_pass_152 rfl (lv_at hl 5 rfl) ?_
                refine lv_iconst (v := 0) hx hb dX1_pass_153 (by decide) ?_
                refine va_callv (va_runV (As := [.int 0, .int p1, .int 0]) (rest := []) ⟨hx, hb, hml, hown, hts⟩ (c_X1_put l D a hO S140 0 p1 0 hI vp_k0_5) (cwV 3 hts gX1_pass_X1_put rfl rfl rfl hdX1_put ⟨Nat.le_of_ble_eq_true rfl, Nat.le_of_ble_eq_true rfl⟩) (mPreV hK hP) rfl rfl hl.1 rfl (lv_room (Nat.le_of_ble_eq_true rfl)) dX1_pass_154 ⟨Nat.zero_le _, Nat.zero_le _⟩) hS (fun q _ h => h) (fun q h => h) (fun S142 t H1 locs ht hvm hw142 hB hz1 hk1 hS => ?_)
                obtain ⟨hP, -⟩ := hB
                rw [ht] at hP
                have hI := mI_put hI hw142
                refine lv_aload_n hx hb dX1_pass_157 rfl (lv_at hl 4 rfl) ?_
                refine lv_iload hx hb dX1_pass_158 (lv_at hl 0 rfl) ?_
                refine va_calli (va_runV (As := [.int r138]) (rest := []) ⟨hx, hb, hml, hown, hts⟩ (c_X1_answer l D a hO S142 r138) (cwV 1 hts gX1_pass_X1_answer rfl rfl rfl hdX1_answer ⟨Nat.le_of_ble_eq_true rfl, Nat.le_of_ble_eq_true rfl⟩) (mPreV hK hP) rfl rfl hl.1 rfl (lv_room (Nat.le_of_ble_eq_true rfl)) dX1_pass_160 ⟨Nat.zero_le _, Nat.zero_le _⟩) hS (fun q _ h => h) (fun q h => h) (fun r144 S144 t H1 locs ht hvm hw144 hB hz1 hk1 hS => ?_)
                obtain ⟨hP, -⟩ := hB
                rw [ht] at hP
                exact W.iret (v := r144) hx hb hr (fun t ht hW => ⟨⟨r144, S144, rfl, (by simp only [mF_pass, hw1, if_neg c2, hw4, if_pos c6, if_neg c89, hw91, if_pos c93, if_neg c132, if_neg c134, hw135, if_neg c137, hw138, hw140, hw142, hw144]), by rw [ht]; exact hP, va_K.moved hW.alike hK⟩, hS.F ht⟩) hS.2.2 dX1_pass_163
              · refine lv_iload hx hb dX1_pass_127 (lv_at hl 0 rfl) ?_
                refine lv_if_eq (tgt := 135) hx hb dX1_pass_129 (by decide) (fun c146 => ?_) (fun c146 => ?_)
                · refine lv_aload_n hx hb dX1_pass_135 rfl (lv_at hl 4 rfl) ?_
                  refine lv_iload_n hx hb dX1_pass_136 rfl (lv_at hl 5 rfl) ?_
                  refine lv_iload_n hx hb dX1_pass_137 rfl (lv_at hl 2 rfl) ?_
                  refine va_calli (va_runV (As := [.int p1, .int r91]) (rest := []) ⟨hx, hb, hml, hown, hts⟩ (c_X1_moved l D a hO S135 p1 r91 hI) (cwV 2 hts gX1_pass_X1_moved rfl rfl rfl hdX1_moved ⟨Nat.le_of_ble_eq_true rfl, Nat.le_of_ble_eq_true rfl⟩) (mPreV hK hP) rfl rfl hl.1 rfl (lv_room (Nat.le_of_ble_eq_true rfl)) dX1_pass_138 ⟨Nat.zero_le _, Nat.zero_le _⟩) hS (fun q _ h => h) (fun q h => h) (fun r148 S148 t H1 locs ht hvm hw148 hB hz1 hk1 hS => ?_)
                  obtain ⟨hP, -⟩ := hB
                  rw [ht] at hP
                  have hI := mI_moved hI hw148
                  refine lv_istore (lv' := [(4, .int r148), (5, .int r135), (3, .int r91), (2, .int r4), (0, .ref (ma a)), (1, .int p1)]) hx hb dX1_pass_141 hl (by decide) rfl (fun ls hl => ?_)
                  refine lv_aload_n hx hb dX1_pass_143 rfl (lv_at hl 4 rfl) ?_
                  refine lv_iconst (v := 2) hx hb dX1_pass_144 (by decide) ?_
                  refine lv_iload_n hx hb dX1_pass_145 rfl (lv_at hl 5 rfl) ?_
                  refine lv_iconst (v := 0) hx hb dX1_pass_146 (by decide) ?_
                  refine va_callv (va_runV (As := [.int 2, .int p1, .int 0]) (rest := []) ⟨hx, hb, hml, hown, hts⟩ (c_X1_put l D a hO S148 2 p1 0 hI vp_k2_5) (cwV 3 hts gX1_pass_X1_put rfl rfl rfl hdX1_put ⟨Nat.le_of_ble_eq_true rfl, Nat.le_of_ble_eq_true rfl⟩) (mPreV hK hP) rfl rfl hl.1 rfl (lv_room (Nat.le_of_ble_eq_true rfl)) dX1_pass_147 ⟨Nat.zero_le _, Nat.zero_le _⟩) hS (fun q _ h => h) (fun q h => h) (fun S150 t H1 locs ht hvm hw150 hB hz1 hk1 hS => ?_)
                  obtain ⟨hP, -⟩ := hB
                  rw [ht] at hP
                  have hI := mI_put hI hw150
                  refine lv_aload_n hx hb dX1_pass_150 rfl (lv_at hl 4 rfl) ?_
                  refine lv_iconst (v := 0) hx hb dX1_pass_151 (by decide) ?_
                  refine lv_iload_n hx hb dX1_pass_152 rfl (lv_at hl 5 rfl) ?_
                  refine lv_iconst (v := 0) hx hb dX1_pass_153 (by decide) ?_
                  refine va_callv (va_runV (As := [.int 0, .int p1, .int 0]) (rest := []) ⟨hx, hb, hml, hown, hts⟩ (c_X1_put l D a hO S150 0 p1 0 hI vp_k0_5) (cwV 3 hts gX1_pass_X1_put rfl rfl rfl hdX1_put ⟨Nat.le_of_ble_eq_true rfl, Nat.le_of_ble_eq_true rfl⟩) (mPreV hK hP) rfl rfl hl.1 rfl (lv_room (Nat.le_of_ble_eq_true rfl)) dX1_pass_154 ⟨Nat.zero_le _, Nat.zero_le _⟩) hS (fun q _ h => h) (fun q h => h) (fun S152 t H1 locs ht hvm hw152 hB hz1 hk1 hS => ?_)
                  obtain ⟨hP, -⟩ := hB
                  rw [ht] at hP
                  have hI := mI_put hI hw152
                  refine lv_aload_n hx hb dX1_pass_157 rfl (lv_at hl 4 rfl) ?_
                  refine lv_iload hx hb dX1_pass_158 (lv_at hl 0 rfl) ?_
                  refine va_calli (va_runV (As := [.int r148]) (rest := []) ⟨hx, hb, hml, hown, hts⟩ (c_X1_answer l D a hO S152 r148) (cwV 1 hts gX1_pass_X1_answer rfl rfl rfl hdX1_answer ⟨Nat.le_of_ble_eq_true rfl, Nat.le_of_ble_eq_true rfl⟩) (mPreV hK hP) rfl rfl hl.1 rfl (lv_room (Nat.le_of_ble_eq_true rfl)) dX1_pass_160 ⟨Nat.zero_le _, Nat.zero_le _⟩) hS (fun q _ h => h) (fun q h => h) (fun r154 S154 t H1 locs ht hvm hw154 hB hz1 hk1 hS => ?_)
                  obtain ⟨hP, -⟩ := hB
                  rw [ht] at hP
                  exact W.iret (v := r154) hx hb hr (fun t ht hW => ⟨⟨r154, S154, rfl, (by simp only [mF_pass, hw1, if_neg c2, hw4, if_pos c6, if_neg c89, hw91, if_pos c93, if_neg c132, if_neg c134, hw135, if_pos c137, if_pos c146, hw148, hw150, hw152, hw154]), by rw [ht]; exact hP, va_K.moved hW.alike hK⟩, hS.F ht⟩) hS.2.2 dX1_pass_163
                · refine lv_bipush (v := (-4)) hx hb dX1_pass_132 (by decide) ?_
                  exact W.iret (v := (-4)) hx hb hr (fun t ht hW => ⟨⟨(-4), S135, rfl, (by simp only [mF_pass, hw1, if_neg c2, hw4, if_pos c6, if_neg c89, hw91, if_pos c93, if_neg c132, if_neg c134, hw135, if_pos c137, if_neg c146]), by rw [ht]; exact hP, va_K.moved hW.alike hK⟩, hS.F ht⟩) hS.2.2 dX1_pass_134
            · refine lv_aload_n hx hb dX1_pass_71 rfl (lv_at hl 3 rfl) ?_
              refine lv_iconst (v := 2) hx hb dX1_pass_72 (by decide) ?_
              refine lv_iload_n hx hb dX1_pass_73 rfl (lv_at hl 4 rfl) ?_
              refine va_calli (va_runV (As := [.int 2, .int p1]) (rest := []) ⟨hx, hb, hml, hown, hts⟩ (c_X1_cell l D a hO S91 2 p1 hI vp_k2_5) (cwV 2 hts gX1_pass_X1_cell rfl rfl rfl hdX1_cell ⟨Nat.le_of_ble_eq_true rfl, Nat.le_of_ble_eq_true rfl⟩) (mPreV hK hP) rfl rfl hl.1 rfl (lv_room (Nat.le_of_ble_eq_true rfl)) dX1_pass_74 ⟨Nat.zero_le _, Nat.zero_le _⟩) hS (fun q _ h => h) (fun q h => h) (fun r157 S157 t H1 locs ht hvm hw157 hB hz1 hk1 hS => ?_)
              obtain ⟨hP, -⟩ := hB
              rw [ht] at hP
              have hI := mI_cell hI hw157
              refine lv_istore (lv' := [(4, .int r157), (3, .int r91), (2, .int r4), (0, .ref (ma a)), (1, .int p1)]) hx hb dX1_pass_77 hl (by decide) rfl (fun ls hl => ?_)
              refine lv_aload_n hx hb dX1_pass_79 rfl (lv_at hl 3 rfl) ?_
              refine m_get hx hb hts hu hown hK hP 11 (by decide) hf23 rfl (v := .int (mFa S157)) rfl dX1_pass_80 ?_
              refine lv_if_ne (tgt := 143) hx hb dX1_pass_83 (by decide) (fun c159 => ?_) (fun c159 => ?_)
              · refine lv_aload_n hx hb dX1_pass_143 rfl (lv_at hl 3 rfl) ?_
                refine lv_iconst (v := 2) hx hb dX1_pass_144 (by decide) ?_
                refine lv_iload_n hx hb dX1_pass_145 rfl (lv_at hl 4 rfl) ?_
                refine lv_iconst (v := 0) hx hb dX1_pass_146 (by decide) ?_
                refine va_callv (va_runV (As := [.int 2, .int p1, .int 0]) (rest := []) ⟨hx, hb, hml, hown, hts⟩ (c_X1_put l D a hO S157 2 p1 0 hI vp_k2_5) (cwV 3 hts gX1_pass_X1_put rfl rfl rfl hdX1_put ⟨Nat.le_of_ble_eq_true rfl, Nat.le_of_ble_eq_true rfl⟩) (mPreV hK hP) rfl rfl hl.1 rfl (lv_room (Nat.le_of_ble_eq_true rfl)) dX1_pass_147 ⟨Nat.zero_le _, Nat.zero_le _⟩) hS (fun q _ h => h) (fun q h => h) (fun S160 t H1 locs ht hvm hw160 hB hz1 hk1 hS => ?_)
                obtain ⟨hP, -⟩ := hB
                rw [ht] at hP
                have hI := mI_put hI hw160
                refine lv_aload_n hx hb dX1_pass_150 rfl (lv_at hl 3 rfl) ?_
                refine lv_iconst (v := 0) hx hb dX1_pass_151 (by decide) ?_
                refine lv_iload_n hx hb dX1_pass_152 rfl (lv_at hl 4 rfl) ?_
                refine lv_iconst (v := 0) hx hb dX1_pass_153 (by decide) ?_
                refine va_callv (va_runV (As := [.int 0, .int p1, .int 0]) (rest := []) ⟨hx, hb, hml, hown, hts⟩ (c_X1_put l D a hO S160 0 p1 0 hI vp_k0_5) (cwV 3 hts gX1_pass_X1_put rfl rfl rfl hdX1_put ⟨Nat.le_of_ble_eq_true rfl, Nat.le_of_ble_eq_true rfl⟩) (mPreV hK hP) rfl rfl hl.1 rfl (lv_room (Nat.le_of_ble_eq_true rfl)) dX1_pass_154 ⟨Nat.zero_le _, Nat.zero_le _⟩) hS (fun q _ h => h) (fun q h => h) (fun S162 t H1 locs ht hvm hw162 hB hz1 hk1 hS => ?_)
                obtain ⟨hP, -⟩ := hB
                rw [ht] at hP
                have hI := mI_put hI hw162
                refine lv_aload_n hx hb dX1_pass_157 rfl (lv_at hl 3 rfl) ?_
                refine lv_iload hx hb dX1_pass_158 (lv_at hl 0 rfl) ?_
                refine va_calli (va_runV (As := [.int r157]) (rest := []) ⟨hx, hb, hml, hown, hts⟩ (c_X1_answer l D a hO S162 r157) (cwV 1 hts gX1_pass_X1_answer rfl rfl rfl hdX1_answer ⟨Nat.le_of_ble_eq_true rfl, Nat.le_of_ble_eq_true rfl⟩) (mPreV hK hP) rfl rfl hl.1 rfl (lv_room (Nat.le_of_ble_eq_true rfl)) dX1_pass_160 ⟨Nat.zero_le _, Nat.zero_le _⟩) hS (fun q _ h => h) (fun q h => h) (fun r164 S164 t H1 locs ht hvm hw164 hB hz1 hk1 hS => ?_)
                obtain ⟨hP, -⟩ := hB
                rw [ht] at hP
                exact W.iret (v := r164) hx hb hr (fun t ht hW => ⟨⟨r164, S164, rfl, (by simp only [mF_pass, hw1, if_neg c2, hw4, if_pos c6, if_neg c89, hw91, if_pos c93, if_neg c132, if_pos c134, hw157, if_neg c159, hw160, hw162, hw164]), by rw [ht]; exact hP, va_K.moved hW.alike hK⟩, hS.F ht⟩) hS.2.2 dX1_pass_163
              · refine lv_aload_n hx hb dX1_pass_86 rfl (lv_at hl 3 rfl) ?_
                refine lv_dup hx hb dX1_pass_87 rfl ?_
                refine m_get hx hb hts hu hown hK hP 7 (by decide) hf75 rfl (v := .int (mOu S157)) rfl dX1_pass_88 ?_
                refine lv_iconst (v := 1) hx hb dX1_pass_91 (by decide) ?_
                refine lv_iadd hx hb dX1_pass_92 ?_
                refine m_puti hx hb hts hu hown hO hK hP hS 7 (by decide) hf75 rfl rfl (by decide +kernel) (msOu S157) (fun _ => rfl) (fun _ => rfl) dX1_pass_93 (fun H locs hP hS => ?_)
                have hI := mI_out ((mOu S157) + 1) hI
                refine lv_aload_n hx hb dX1_pass_96 rfl (lv_at hl 3 rfl) ?_
                refine lv_aload_n hx hb dX1_pass_97 rfl (lv_at hl 3 rfl) ?_
                refine m_get hx hb hts hu hown hK hP 8 (by decide) hf78 rfl (v := .int (mOl (msOu S157 ((mOu S157) + 1)))) rfl dX1_pass_98 ?_
                refine lv_iload hx hb dX1_pass_101 (lv_at hl 0 rfl) ?_
                refine lv_iadd hx hb dX1_pass_103 ?_
                refine m_puti hx hb hts hu hown hO hK hP hS 8 (by decide) hf78 rfl rfl (by decide +kernel) (msOl (msOu S157 ((mOu S157) + 1))) (fun _ => rfl) (fun _ => rfl) dX1_pass_104 (fun H locs hP hS => ?_)
                have hI := mI_outLoads ((mOl (msOu S157 ((mOu S157) + 1))) + r157) hI
                refine lv_goto (tgt := 143) hx hb dX1_pass_107 (by decide) ?_
                refine lv_aload_n hx hb dX1_pass_143 rfl (lv_at hl 3 rfl) ?_
                refine lv_iconst (v := 2) hx hb dX1_pass_144 (by decide) ?_
                refine lv_iload_n hx hb dX1_pass_145 rfl (lv_at hl 4 rfl) ?_
                refine lv_iconst (v := 0) hx hb dX1_pass_146 (by decide) ?_
                refine va_callv (va_runV (As := [.int 2, .int p1, .int 0]) (rest := []) ⟨hx, hb, hml, hown, hts⟩ (c_X1_put l D a hO (msOl (msOu S157 ((mOu S157) + 1)) ((mOl (msOu S157 ((mOu S157) + 1))) + r157)) 2 p1 0 hI vp_k2_5) (cwV 3 hts gX1_pass_X1_put rfl rfl rfl hdX1_put ⟨Nat.le_of_ble_eq_true rfl, Nat.le_of_ble_eq_true rfl⟩) (mPreV hK hP) rfl rfl hl.1 rfl (lv_room (Nat.le_of_ble_eq_true rfl)) dX1_pass_147 ⟨Nat.zero_le _, Nat.zero_le _⟩) hS (fun q _ h => h) (fun q h => h) (fun S166 t H1 locs ht hvm hw166 hB hz1 hk1 hS => ?_)
                obtain ⟨hP, -⟩ := hB
                rw [ht] at hP
                have hI := mI_put hI hw166
                refine lv_aload_n hx hb dX1_pass_150 rfl (lv_at hl 3 rfl) ?_
                refine lv_iconst (v := 0) hx hb dX1_pass_151 (by decide) ?_
                refine lv_iload_n hx hb dX1_pass_152 rfl (lv_at hl 4 rfl) ?_
                refine lv_iconst (v := 0) hx hb dX1_pass_153 (by decide) ?_
                refine va_callv (va_runV (As := [.int 0, .int p1, .int 0]) (rest := []) ⟨hx, hb, hml, hown, hts⟩ (c_X1_put l D a hO S166 0 p1 0 hI vp_k0_5) (cwV 3 hts gX1_pass_X1_put rfl rfl rfl hdX1_put ⟨Nat.le_of_ble_eq_true rfl, Nat.le_of_ble_eq_true rfl⟩) (mPreV hK hP) rfl rfl hl.1 rfl (lv_room (Nat.le_of_ble_eq_true rfl)) dX1_pass_154 ⟨Nat.zero_le _, Nat.zero_le _⟩) hS (fun q _ h => h) (fun q h => h) (fun S168 t H1 locs ht hvm hw168 hB hz1 hk1 hS => ?_)
                obtain ⟨hP, -⟩ := hB
                rw [ht] at hP
                have hI := mI_put hI hw168
                refine lv_aload_n hx hb dX1_pass_157 rfl (lv_at hl 3 rfl) ?_
                refine lv_iload hx hb dX1_pass_158 (lv_at hl 0 rfl) ?_
                refine va_calli (va_runV (As := [.int r157]) (rest := []) ⟨hx, hb, hml, hown, hts⟩ (c_X1_answer l D a hO S168 r157) (cwV 1 hts gX1_pass_X1_answer rfl rfl rfl hdX1_answer ⟨Nat.le_of_ble_eq_true rfl, Nat.le_of_ble_eq_true rfl⟩) (mPreV hK hP) rfl rfl hl.1 rfl (lv_room (Nat.le_of_ble_eq_true rfl)) dX1_pass_160 ⟨Nat.zero_le _, Nat.zero_le _⟩) hS (fun q _ h => h) (fun q h => h) (fun r170 S170 t H1 locs ht hvm hw170 hB hz1 hk1 hS => ?_)
                obtain ⟨hP, -⟩ := hB
                rw [ht] at hP
                exact W.iret (v := r170) hx hb hr (fun t ht hW => ⟨⟨r170, S170, rfl, (by simp only [mF_pass, hw1, if_neg c2, hw4, if_pos c6, if_neg c89, hw91, if_pos c93, if_neg c132, if_pos c134, hw157, if_pos c159, hw166, hw168, hw170]), by rw [ht]; exact hP, va_K.moved hW.alike hK⟩, hS.F ht⟩) hS.2.2 dX1_pass_163
          · refine lv_bipush (v := (-3)) hx hb dX1_pass_55 (by decide) ?_
            exact W.iret (v := (-3)) hx hb hr (fun t ht hW => ⟨⟨(-3), S91, rfl, (by simp only [mF_pass, hw1, if_neg c2, hw4, if_pos c6, if_neg c89, hw91, if_pos c93, if_pos c132]), by rw [ht]; exact hP, va_K.moved hW.alike hK⟩, hS.F ht⟩) hS.2.2 dX1_pass_57
      · refine lv_bipush (v := (-2)) hx hb dX1_pass_34 (by decide) ?_
        exact W.iret (v := (-2)) hx hb hr (fun t ht hW => ⟨⟨(-2), S4, rfl, (by simp only [mF_pass, hw1, if_neg c2, hw4, if_pos c6, if_pos c89]), by rw [ht]; exact hP, va_K.moved hW.alike hK⟩, hS.F ht⟩) hS.2.2 dX1_pass_36
  · refine lv_ldc (v := (-300000)) hx hb hown hk50 dX1_pass_8 ?_
    exact W.iret (v := (-300000)) hx hb hr (fun t ht hW => ⟨⟨(-300000), S, rfl, (by simp only [mF_pass, hw1, if_pos c2]), by rw [ht]; exact hP, va_K.moved hW.alike hK⟩, hS.F ht⟩) hS.2.2 dX1_pass_10
def mF_hasRow (S : MS) (p1 : Int32) : Int32 × MS := (if (mFa S) = 0 then (if (mCh S) = 0 then (0, (msFa S (-100005))) else (if p1 < 0 then (0, (msFa S (-200005))) else (if p1 < (mRw S) then (1, (msFa S 0)) else (0, (msFa S (-200005)))))) else (0, S))
theorem hdX1_hasRow : yX1_hasRow.cls = RX1 ∧ yX1_hasRow.cls ≠ "java/lang/invoke/MethodHandle" ∧ yX1_hasRow.cls ≠ "java/lang/invoke/VarHandle" ∧ (parseMethodDescriptor yX1_hasRow.desc).map (fun d => d.parameters.length) = some 1 := by decide +kernel
set_option maxHeartbeats 4000000 in
set_option maxRecDepth 100000 in
theorem c_X1_hasRow (l : Launch) (D : va_G) (a : MA) (hO : mOk a) (S : MS) (p1 : Int32) : Met l yX1_hasRow wsX1_hasRow ({ frames := 0, cells := 0, slots := 0, locals := 0 }) (va_Pc [.ref (ma a), .int p1] (mB D a S)) (mQi D a (mF_hasRow S p1)) 0 0 (mA a) := by
  refine Met.ofW (cc := cX1_hasRow) (maxL := 2) (ret := (some .boolean)) (by decide) rfl ?_
  intro p e s m args below meth c s₁ B hml hv
  obtain ⟨rfl, hP, hK⟩ := hv
  have hx := B.exec
  have hb := B.bytes
  have hr := B.returns
  have hts := atoms_spec (ws := wsX1_hasRow) B.pre
  have hown : s.vm.findClass RX1 = some m.cls := findClass_of_methodNamed B.named
  have hlocks := B.notSynchronized
  have hS : va_S (mA a) s.heap s.heap [] := va_S.rf
  have hP : va_P D vwCl (mW a S) s.heap := hP
  have hu : ∀ w ∈ wsX10, w ∈ wsX1_hasRow := fun _ h => List.mem_cons_of_mem _ (List.mem_append_right _ h)
  have hf23 := hts (.fieldLink RX1 23 "FlightBooksModel" "fault" "I") (by decide +kernel)
  have hf84 := hts (.fieldLink RX1 84 "FlightBooksModel" "charted" "Z") (by decide +kernel)
  have hk95 := hts (.constant RX1 95 (-200005)) (by decide +kernel)
  have hf88 := hts (.fieldLink RX1 88 "FlightBooksModel" "rows" "I") (by decide +kernel)
  have hk94 := hts (.constant RX1 94 (-100005)) (by decide +kernel)
  have hl := lv_entry ([.ref (ma a), .int p1]) (n := 2) (Nat.le_of_ble_eq_true rfl)
  rw [lg_entry_eq]
  generalize (lg_sl ([.ref (ma a), .int p1]) ++ List.replicate (2 - (lg_sl ([.ref (ma a), .int p1])).length) Slot.unset).toArray = ls at hl ⊢
  have hl : lv_has ls 2 [(0, .ref (ma a)), (1, .int p1)] := hl
  refine lv_aload_n hx hb dX1_hasRow_0 rfl (lv_at hl 0 rfl) ?_
  refine m_get hx hb hts hu hown hK hP 11 (by decide) hf23 rfl (v := .int (mFa S)) rfl dX1_hasRow_1 ?_
  refine lv_if_eq (tgt := 9) hx hb dX1_hasRow_4 (by decide) (fun c1 => ?_) (fun c1 => ?_)
  · refine lv_aload_n hx hb dX1_hasRow_9 rfl (lv_at hl 0 rfl) ?_
    refine lv_aload_n hx hb dX1_hasRow_10 rfl (lv_at hl 0 rfl) ?_
    refine m_get hx hb hts hu hown hK hP 4 (by decide) hf84 rfl (v := .int (mCh S)) rfl dX1_hasRow_11 ?_
    refine lv_if_ne (tgt := 22) hx hb dX1_hasRow_14 (by decide) (fun c2 => ?_) (fun c2 => ?_)
    · refine lv_iload_n hx hb dX1_hasRow_22 rfl (lv_at hl 1 rfl) ?_
      refine lv_if_lt (tgt := 34) hx hb dX1_hasRow_23 (by decide) (fun c3 => ?_) (fun c3 => ?_)
      · refine lv_ldc (v := (-200005)) hx hb hown hk95 dX1_hasRow_34 ?_
        refine lv_goto (tgt := 40) hx hb dX1_hasRow_36 (by decide) ?_
        refine m_puti hx hb hts hu hown hO hK hP hS 11 (by decide) hf23 rfl rfl (by decide +kernel) (msFa S) (fun _ => rfl) (fun _ => rfl) dX1_hasRow_40 (fun H locs hP hS => ?_)
        refine lv_aload_n hx hb dX1_hasRow_43 rfl (lv_at hl 0 rfl) ?_
        refine m_get hx hb hts hu hown hK hP 11 (by decide) hf23 rfl (v := .int (-200005)) rfl dX1_hasRow_44 ?_
        refine lv_if_ne (tgt := 54) hx hb dX1_hasRow_47 (by decide) (fun c4 => ?_) (fun c4 => ?_)
        · refine lv_iconst (v := 0) hx hb dX1_hasRow_54 (by decide) ?_
          exact W.zret (v := 0) hx hb hr rfl (fun t ht hW => ⟨⟨0, (msFa S (-200005)), rfl, (by simp only [mF_hasRow, if_pos c1, if_neg c2, if_pos c3]), by rw [ht]; exact hP, va_K.moved hW.alike hK⟩, hS.F ht⟩) hS.2.2 dX1_hasRow_55
        · exact absurd c4 (by decide)
      · refine lv_iload_n hx hb dX1_hasRow_26 rfl (lv_at hl 1 rfl) ?_
        refine lv_aload_n hx hb dX1_hasRow_27 rfl (lv_at hl 0 rfl) ?_
        refine m_get hx hb hts hu hown hK hP 5 (by decide) hf88 rfl (v := .int (mRw S)) rfl dX1_hasRow_28 ?_
        refine lv_icmp_lt (tgt := 39) hx hb dX1_hasRow_31 (by decide) (fun c5 => ?_) (fun c5 => ?_)
        · refine lv_iconst (v := 0) hx hb dX1_hasRow_39 (by decide) ?_
          refine m_puti hx hb hts hu hown hO hK hP hS 11 (by decide) hf23 rfl rfl (by decide +kernel) (msFa S) (fun _ => rfl) (fun _ => rfl) dX1_hasRow_40 (fun H locs hP hS => ?_)
          refine lv_aload_n hx hb dX1_hasRow_43 rfl (lv_at hl 0 rfl) ?_
          refine m_get hx hb hts hu hown hK hP 11 (by decide) hf23 rfl (v := .int 0) rfl dX1_hasRow_44 ?_
          refine lv_if_ne (tgt := 54) hx hb dX1_hasRow_47 (by decide) (fun c6 => ?_) (fun c6 => ?_)
          · exact absurd c6 (by decide)
          · refine lv_iconst (v := 1) hx hb dX1_hasRow_50 (by decide) ?_
            refine lv_goto (tgt := 55) hx hb dX1_hasRow_51 (by decide) ?_
            exact W.zret (v := 1) hx hb hr rfl (fun t ht hW => ⟨⟨1, (msFa S 0), rfl, (by simp only [mF_hasRow, if_pos c1, if_neg c2, if_neg c3, if_pos c5]), by rw [ht]; exact hP, va_K.moved hW.alike hK⟩, hS.F ht⟩) hS.2.2 dX1_hasRow_55
        · refine lv_ldc (v := (-200005)) hx hb hown hk95 dX1_hasRow_34 ?_
          refine lv_goto (tgt := 40) hx hb dX1_hasRow_36 (by decide) ?_
          refine m_puti hx hb hts hu hown hO hK hP hS 11 (by decide) hf23 rfl rfl (by decide +kernel) (msFa S) (fun _ => rfl) (fun _ => rfl) dX1_hasRow_40 (fun H locs hP hS => ?_)
          refine lv_aload_n hx hb dX1_hasRow_43 rfl (lv_at hl 0 rfl) ?_
          refine m_get hx hb hts hu hown hK hP 11 (by decide) hf23 rfl (v := .int (-200005)) rfl dX1_hasRow_44 ?_
          refine lv_if_ne (tgt := 54) hx hb dX1_hasRow_47 (by decide) (fun c7 => ?_) (fun c7 => ?_)
          · refine lv_iconst (v := 0) hx hb dX1_hasRow_54 (by decide) ?_
            exact W.zret (v := 0) hx hb hr rfl (fun t ht hW => ⟨⟨0, (msFa S (-200005)), rfl, (by simp only [mF_hasRow, if_pos c1, if_neg c2, if_neg c3, if_neg c5]), by rw [ht]; exact hP, va_K.moved hW.alike hK⟩, hS.F ht⟩) hS.2.2 dX1_hasRow_55
          · exact absurd c7 (by decide)
    · refine lv_ldc (v := (-100005)) hx hb hown hk94 dX1_hasRow_17 ?_
      refine lv_goto (tgt := 40) hx hb dX1_hasRow_19 (by decide) ?_
      refine m_puti hx hb hts hu hown hO hK hP hS 11 (by decide) hf23 rfl rfl (by decide +kernel) (msFa S) (fun _ => rfl) (fun _ => rfl) dX1_hasRow_40 (fun H locs hP hS => ?_)
      refine lv_aload_n hx hb dX1_hasRow_43 rfl (lv_at hl 0 rfl) ?_
      refine m_get hx hb hts hu hown hK hP 11 (by decide) hf23 rfl (v := .int (-100005)) rfl dX1_hasRow_44 ?_
      refine lv_if_ne (tgt := 54) hx hb dX1_hasRow_47 (by decide) (fun c8 => ?_) (fun c8 => ?_)
      · refine lv_iconst (v := 0) hx hb dX1_hasRow_54 (by decide) ?_
        exact W.zret (v := 0) hx hb hr rfl (fun t ht hW => ⟨⟨0, (msFa S (-100005)), rfl, (by simp only [mF_hasRow, if_pos c1, if_pos c2]), by rw [ht]; exact hP, va_K.moved hW.alike hK⟩, hS.F ht⟩) hS.2.2 dX1_hasRow_55
      · exact absurd c8 (by decide)
  · refine lv_iconst (v := 0) hx hb dX1_hasRow_7 (by decide) ?_
    exact W.zret (v := 0) hx hb hr rfl (fun t ht hW => ⟨⟨0, S, rfl, (by simp only [mF_hasRow, if_neg c1]), by rw [ht]; exact hP, va_K.moved hW.alike hK⟩, hS.F ht⟩) hS.2.2 dX1_hasRow_8
def mF_hasPlace (S : MS) (p1 p2 : Int32) : Int32 × MS := (let q1 := mF_hasRow S p1; (if q1.1 = 0 then (if (mFa q1.2) = 0 then (1, q1.2) else (0, q1.2)) else (if p2 < 0 then (0, (msFa q1.2 (-200006))) else (if p2 < (mAc q1.2) then (if (mFa q1.2) = 0 then (1, q1.2) else (0, q1.2)) else (0, (msFa q1.2 (-200006)))))))
theorem hdX1_hasPlace : yX1_hasPlace.cls = RX1 ∧ yX1_hasPlace.cls ≠ "java/lang/invoke/MethodHandle" ∧ yX1_hasPlace.cls ≠ "java/lang/invoke/VarHandle" ∧ (parseMethodDescriptor yX1_hasPlace.desc).map (fun d => d.parameters.length) = some 2 := by decide +kernel
set_option maxHeartbeats 4000000 in
set_option maxRecDepth 100000 in
theorem c_X1_hasPlace (l : Launch) (D : va_G) (a : MA) (hO : mOk a) (S : MS) (p1 p2 : Int32) : Met l yX1_hasPlace wsX1_hasPlace ({ frames := 1, cells := 0, slots := 0, locals := 21 }) (va_Pc [.ref (ma a), .int p1, .int p2] (mB D a S)) (mQi D a (mF_hasPlace S p1 p2)) 0 0 (mA a) := by
  refine Met.ofW (cc := cX1_hasPlace) (maxL := 3) (ret := (some .boolean)) (by decide) rfl ?_
  intro p e s m args below meth c s₁ B hml hv
  obtain ⟨rfl, hP, hK⟩ := hv
  have hx := B.exec
  have hb := B.bytes
  have hr := B.returns
  have hts := atoms_spec (ws := wsX1_hasPlace) B.pre
  have hown : s.vm.findClass RX1 = some m.cls := findClass_of_methodNamed B.named
  have hlocks := B.notSynchronized
  have hS : va_S (mA a) s.heap s.heap [] := va_S.rf
  have hP : va_P D vwCl (mW a S) s.heap := hP
  have hu : ∀ w ∈ wsX10, w ∈ wsX1_hasPlace := fun _ h => List.mem_cons_of_mem _ (List.mem_append_right _ h)
  have hf23 := hts (.fieldLink RX1 23 "FlightBooksModel" "fault" "I") (by decide +kernel)
  have hk99 := hts (.constant RX1 99 (-200006)) (by decide +kernel)
  have hf91 := hts (.fieldLink RX1 91 "FlightBooksModel" "across" "I") (by decide +kernel)
  have hl := lv_entry ([.ref (ma a), .int p1, .int p2]) (n := 3) (Nat.le_of_ble_eq_true rfl)
  rw [lg_entry_eq]
  generalize (lg_sl ([.ref (ma a), .int p1, .int p2]) ++ List.replicate (3 - (lg_sl ([.ref (ma a), .int p1, .int p2])).length) Slot.unset).toArray = ls at hl ⊢
  have hl : lv_has ls 3 [(0, .ref (ma a)), (1, .int p1), (2, .int p2)] := hl
  refine lv_aload_n hx hb dX1_hasPlace_0 rfl (lv_at hl 0 rfl) ?_
  refine lv_iload_n hx hb dX1_hasPlace_1 rfl (lv_at hl 1 rfl) ?_
  refine va_calli (va_runV (As := [.int p1]) (rest := []) ⟨hx, hb, hml, hown, hts⟩ (c_X1_hasRow l D a hO S p1) (cwV 1 hts gX1_hasPlace_X1_hasRow rfl rfl rfl hdX1_hasRow ⟨Nat.le_of_ble_eq_true rfl, Nat.le_of_ble_eq_true rfl⟩) (mPreV hK hP) rfl rfl hl.1 rfl (lv_room (Nat.le_of_ble_eq_true rfl)) dX1_hasPlace_2 ⟨Nat.zero_le _, Nat.zero_le _⟩) hS (fun q _ h => h) (fun q h => h) (fun r1 S1 t H1 locs ht hvm hw1 hB hz1 hk1 hS => ?_)
  obtain ⟨hP, -⟩ := hB
  rw [ht] at hP
  refine lv_if_eq (tgt := 26) hx hb dX1_hasPlace_5 (by decide) (fun c3 => ?_) (fun c3 => ?_)
  · refine lv_aload_n hx hb dX1_hasPlace_26 rfl (lv_at hl 0 rfl) ?_
    refine m_get hx hb hts hu hown hK hP 11 (by decide) hf23 rfl (v := .int (mFa S1)) rfl dX1_hasPlace_27 ?_
    refine lv_if_ne (tgt := 37) hx hb dX1_hasPlace_30 (by decide) (fun c5 => ?_) (fun c5 => ?_)
    · refine lv_iconst (v := 0) hx hb dX1_hasPlace_37 (by decide) ?_
      exact W.zret (v := 0) hx hb hr rfl (fun t ht hW => ⟨⟨0, S1, rfl, (by simp only [mF_hasPlace, hw1, if_pos c3, if_neg c5]), by rw [ht]; exact hP, va_K.moved hW.alike hK⟩, hS.F ht⟩) hS.2.2 dX1_hasPlace_38
    · refine lv_iconst (v := 1) hx hb dX1_hasPlace_33 (by decide) ?_
      refine lv_goto (tgt := 38) hx hb dX1_hasPlace_34 (by decide) ?_
      exact W.zret (v := 1) hx hb hr rfl (fun t ht hW => ⟨⟨1, S1, rfl, (by simp only [mF_hasPlace, hw1, if_pos c3, if_pos c5]), by rw [ht]; exact hP, va_K.moved hW.alike hK⟩, hS.F ht⟩) hS.2.2 dX1_hasPlace_38
  · refine lv_iload_n hx hb dX1_hasPlace_8 rfl (lv_at hl 2 rfl) ?_
    refine lv_if_lt (tgt := 20) hx hb dX1_hasPlace_9 (by decide) (fun c7 => ?_) (fun c7 => ?_)
    · refine lv_aload_n hx hb dX1_hasPlace_20 rfl (lv_at hl 0 rfl) ?_
      refine lv_ldc (v := (-200006)) hx hb hown hk99 dX1_hasPlace_21 ?_
      refine m_puti hx hb hts hu hown hO hK hP hS 11 (by decide) hf23 rfl rfl (by decide +kernel) (msFa S1) (fun _ => rfl) (fun _ => rfl) dX1_hasPlace_23 (fun H locs hP hS => ?_)
      refine lv_aload_n hx hb dX1_hasPlace_26 rfl (lv_at hl 0 rfl) ?_
      refine m_get hx hb hts hu hown hK hP 11 (by decide) hf23 rfl (v := .int (-200006)) rfl dX1_hasPlace_27 ?_
      refine lv_if_ne (tgt := 37) hx hb dX1_hasPlace_30 (by decide) (fun c8 => ?_) (fun c8 => ?_)
      · refine lv_iconst (v := 0) hx hb dX1_hasPlace_37 (by decide) ?_
        exact W.zret (v := 0) hx hb hr rfl (fun t ht hW => ⟨⟨0, (msFa S1 (-200006)), rfl, (by simp only [mF_hasPlace, hw1, if_neg c3, if_pos c7]), by rw [ht]; exact hP, va_K.moved hW.alike hK⟩, hS.F ht⟩) hS.2.2 dX1_hasPlace_38
      · exact absurd c8 (by decide)
    · refine lv_iload_n hx hb dX1_hasPlace_12 rfl (lv_at hl 2 rfl) ?_
      refine lv_aload_n hx hb dX1_hasPlace_13 rfl (lv_at hl 0 rfl) ?_
      refine m_get hx hb hts hu hown hK hP 6 (by decide) hf91 rfl (v := .int (mAc S1)) rfl dX1_hasPlace_14 ?_
      refine lv_icmp_lt (tgt := 26) hx hb dX1_hasPlace_17 (by decide) (fun c9 => ?_) (fun c9 => ?_)
      · refine lv_aload_n hx hb dX1_hasPlace_26 rfl (lv_at hl 0 rfl) ?_
        refine m_get hx hb hts hu hown hK hP 11 (by decide) hf23 rfl (v := .int (mFa S1)) rfl dX1_hasPlace_27 ?_
        refine lv_if_ne (tgt := 37) hx hb dX1_hasPlace_30 (by decide) (fun c10 => ?_) (fun c10 => ?_)
        · refine lv_iconst (v := 0) hx hb dX1_hasPlace_37 (by decide) ?_
          exact W.zret (v := 0) hx hb hr rfl (fun t ht hW => ⟨⟨0, S1, rfl, (by simp only [mF_hasPlace, hw1, if_neg c3, if_neg c7, if_pos c9, if_neg c10]), by rw [ht]; exact hP, va_K.moved hW.alike hK⟩, hS.F ht⟩) hS.2.2 dX1_hasPlace_38
        · refine lv_iconst (v := 1) hx hb dX1_hasPlace_33 (by decide) ?_
          refine lv_goto (tgt := 38) hx hb dX1_hasPlace_34 (by decide) ?_
          exact W.zret (v := 1) hx hb hr rfl (fun t ht hW => ⟨⟨1, S1, rfl, (by simp only [mF_hasPlace, hw1, if_neg c3, if_neg c7, if_pos c9, if_pos c10]), by rw [ht]; exact hP, va_K.moved hW.alike hK⟩, hS.F ht⟩) hS.2.2 dX1_hasPlace_38
      · refine lv_aload_n hx hb dX1_hasPlace_20 rfl (lv_at hl 0 rfl) ?_
        refine lv_ldc (v := (-200006)) hx hb hown hk99 dX1_hasPlace_21 ?_
        refine m_puti hx hb hts hu hown hO hK hP hS 11 (by decide) hf23 rfl rfl (by decide +kernel) (msFa S1) (fun _ => rfl) (fun _ => rfl) dX1_hasPlace_23 (fun H locs hP hS => ?_)
        refine lv_aload_n hx hb dX1_hasPlace_26 rfl (lv_at hl 0 rfl) ?_
        refine m_get hx hb hts hu hown hK hP 11 (by decide) hf23 rfl (v := .int (-200006)) rfl dX1_hasPlace_27 ?_
        refine lv_if_ne (tgt := 37) hx hb dX1_hasPlace_30 (by decide) (fun c11 => ?_) (fun c11 => ?_)
        · refine lv_iconst (v := 0) hx hb dX1_hasPlace_37 (by decide) ?_
          exact W.zret (v := 0) hx hb hr rfl (fun t ht hW => ⟨⟨0, (msFa S1 (-200006)), rfl, (by simp only [mF_hasPlace, hw1, if_neg c3, if_neg c7, if_neg c9]), by rw [ht]; exact hP, va_K.moved hW.alike hK⟩, hS.F ht⟩) hS.2.2 dX1_hasPlace_38
        · exact absurd c11 (by decide)
theorem me_place {S S1 : MS} {i j r : Int32} (hI : mI S) (h : mF_hasPlace S i j = (r, S1)) (c : ¬ r = 0) : vp_in ((24 * i) + j) 576 := by
  cases hq : mF_hasRow S i with
  | mk r2 S2 =>
    simp only [mF_hasPlace, hq] at h
    have hrow0 : r2 = 0 → ¬ mFa S2 = 0 := fun e9 => by
      simp only [mF_hasRow] at hq
      by_cases h0 : mFa S = 0
      · rw [if_pos h0] at hq
        by_cases h1 : mCh S = 0
        · rw [if_pos h1] at hq
          rw [← (Prod.mk.inj hq).2]; exact (by decide : ¬ (-100005 : Int32) = 0)
        · rw [if_neg h1] at hq
          by_cases h2 : i < 0
          · rw [if_pos h2] at hq
            rw [← (Prod.mk.inj hq).2]; exact (by decide : ¬ (-200005 : Int32) = 0)
          · rw [if_neg h2] at hq
            by_cases h3 : i < mRw S
            · rw [if_pos h3] at hq
              exact absurd ((Prod.mk.inj hq).1.trans e9) (by decide)
            · rw [if_neg h3] at hq
              rw [← (Prod.mk.inj hq).2]; exact (by decide : ¬ (-200005 : Int32) = 0)
      · rw [if_neg h0] at hq
        rw [← (Prod.mk.inj hq).2]; exact h0
    have hrow : r2 = 0 ∨ (vp_in i 24 ∧ mAc S2 = mAc S) := by
      simp only [mF_hasRow] at hq
      by_cases h0 : mFa S = 0
      · rw [if_pos h0] at hq
        by_cases h1 : mCh S = 0
        · rw [if_pos h1] at hq
          exact Or.inl ((Prod.mk.inj hq).1.symm.trans (by rfl))
        · rw [if_neg h1] at hq
          by_cases h2 : i < 0
          · rw [if_pos h2] at hq
            exact Or.inl ((Prod.mk.inj hq).1.symm.trans (by rfl))
          · rw [if_neg h2] at hq
            by_cases h3 : i < mRw S
            · rw [if_pos h3] at hq
              exact Or.inr ⟨in_of hI.2.2.1.2 h2 h3, by rw [← (Prod.mk.inj hq).2]⟩
            · rw [if_neg h3] at hq
              exact Or.inl ((Prod.mk.inj hq).1.symm.trans (by rfl))
      · rw [if_neg h0] at hq
        exact Or.inl (Prod.mk.inj hq).1.symm
    by_cases h1 : r2 = 0
    · rw [if_pos h1] at h
      have hf : ¬ mFa S2 = 0 := hrow0 h1
      rw [if_neg hf] at h
      exact absurd (Prod.mk.inj h).1.symm c
    · rw [if_neg h1] at h
      obtain ⟨hi, ha⟩ := hrow.resolve_left h1
      by_cases h2 : j < 0
      · rw [if_pos h2] at h
        exact absurd (Prod.mk.inj h).1.symm c
      · rw [if_neg h2] at h
        by_cases h3 : j < mAc S2
        · exact me_ixp hi (in_of (by rw [ha]; exact hI.2.2.2.2) h2 h3)
        · rw [if_neg h3] at h
          exact absurd (Prod.mk.inj h).1.symm c
def mF_note (S : MS) (p1 p2 p3 p4 : Int32) : Int32 × MS := (if (mF_isBook p1) = 0 then ((-300000), S) else (let q4 := mF_cell (msFa S 0) p1 p2; (let q6 := mF_hasPlace q4.2 p3 p4; (if q6.1 = 0 then (let q10 := mF_answer q6.2 0; (q10.1, q10.2)) else (let q13 := mF_answer (msp q6.2 ((24 * p3) + p4) q4.1) 0; (q13.1, q13.2))))))
theorem hdX1_note : yX1_note.cls = RX1 ∧ yX1_note.cls ≠ "java/lang/invoke/MethodHandle" ∧ yX1_note.cls ≠ "java/lang/invoke/VarHandle" ∧ (parseMethodDescriptor yX1_note.desc).map (fun d => d.parameters.length) = some 4 := by decide +kernel
set_option maxHeartbeats 4000000 in
set_option maxRecDepth 100000 in
theorem c_X1_note (l : Launch) (D : va_G) (a : MA) (hO : mOk a) (S : MS) (p1 p2 p3 p4 : Int32) (hI : mI S) : Met l yX1_note wsX1_note ({ frames := 2, cells := 0, slots := 0, locals := 44 }) (va_Pc [.ref (ma a), .int p1, .int p2, .int p3, .int p4] (mB D a S)) (mQi D a (mF_note S p1 p2 p3 p4)) 0 0 (mA a) := by
  refine Met.ofW (cc := cX1_note) (maxL := 6) (ret := (some .int)) (by decide) rfl ?_
  intro p e s m args below meth c s₁ B hml hv
  obtain ⟨rfl, hP, hK⟩ := hv
  have hx := B.exec
  have hb := B.bytes
  have hr := B.returns
  have hts := atoms_spec (ws := wsX1_note) B.pre
  have hown : s.vm.findClass RX1 = some m.cls := findClass_of_methodNamed B.named
  have hlocks := B.notSynchronized
  have hS : va_S (mA a) s.heap s.heap [] := va_S.rf
  have hP : va_P D vwCl (mW a S) s.heap := hP
  have hu : ∀ w ∈ wsX10, w ∈ wsX1_note := fun _ h => List.mem_cons_of_mem _ (List.mem_append_right _ h)
  have hf23 := hts (.fieldLink RX1 23 "FlightBooksModel" "fault" "I") (by decide +kernel)
  have hf16 := hts (.fieldLink RX1 16 "FlightBooksModel" "places" "[I") (by decide +kernel)
  have hk50 := hts (.constant RX1 50 (-300000)) (by decide +kernel)
  have hl := lv_entry ([.ref (ma a), .int p1, .int p2, .int p3, .int p4]) (n := 6) (Nat.le_of_ble_eq_true rfl)
  rw [lg_entry_eq]
  generalize (lg_sl ([.ref (ma a), .int p1, .int p2, .int p3, .int p4]) ++ List.replicate (6 - (lg_sl ([.ref (ma a), .int p1, .int p2, .int p3, .int p4])).length) Slot.unset).toArray = ls at hl ⊢
  have hl : lv_has ls 6 [(0, .ref (ma a)), (1, .int p1), (2, .int p2), (3, .int p3), (4, .int p4)] := hl
  refine lv_iload_n hx hb dX1_note_0 rfl (lv_at hl 1 rfl) ?_
  refine va_calli (va_runS (As := [.int p1]) (rest := []) ⟨hx, hb, hml, hown, hts⟩ (c_X1_isBook l p1) (va_cwS 1 hts gX1_note_X1_isBook rfl rfl rfl hdX1_isBook ⟨Nat.le_of_ble_eq_true rfl, Nat.le_of_ble_eq_true rfl⟩) pPreS rfl rfl hl.1 rfl (lv_room (Nat.le_of_ble_eq_true rfl)) dX1_note_1 ⟨Nat.zero_le _, Nat.zero_le _⟩) hS (fun q _ h => h.elim) (fun q h => h.elim) (fun r1 u1 t H1 locs ht hvm hw1 hB hz1 hk1 hS => ?_)
  have hP := P_kept hP hk1
  refine lv_if_ne (tgt := 10) hx hb dX1_note_4 (by decide) (fun c2 => ?_) (fun c2 => ?_)
  · have hn3 := me_book hw1 c2
    refine lv_aload_n hx hb dX1_note_10 rfl (lv_at hl 0 rfl) ?_
    refine lv_iconst (v := 0) hx hb dX1_note_11 (by decide) ?_
    refine m_puti hx hb hts hu hown hO hK hP hS 11 (by decide) hf23 rfl rfl (by decide +kernel) (msFa S) (fun _ => rfl) (fun _ => rfl) dX1_note_12 (fun H locs hP hS => ?_)
    have hI := mI_fault 0 hI
    refine lv_aload_n hx hb dX1_note_15 rfl (lv_at hl 0 rfl) ?_
    refine lv_iload_n hx hb dX1_note_16 rfl (lv_at hl 1 rfl) ?_
    refine lv_iload_n hx hb dX1_note_17 rfl (lv_at hl 2 rfl) ?_
    refine va_calli (va_runV (As := [.int p1, .int p2]) (rest := []) ⟨hx, hb, hml, hown, hts⟩ (c_X1_cell l D a hO (msFa S 0) p1 p2 hI hn3) (cwV 2 hts gX1_note_X1_cell rfl rfl rfl hdX1_cell ⟨Nat.le_of_ble_eq_true rfl, Nat.le_of_ble_eq_true rfl⟩) (mPreV hK hP) rfl rfl hl.1 rfl (lv_room (Nat.le_of_ble_eq_true rfl)) dX1_note_18 ⟨Nat.zero_le _, Nat.zero_le _⟩) hS (fun q _ h => h) (fun q h => h) (fun r4 S4 t H1 locs ht hvm hw4 hB hz1 hk1 hS => ?_)
    obtain ⟨hP, -⟩ := hB
    rw [ht] at hP
    have hI := mI_cell hI hw4
    refine lv_istore (lv' := [(5, .int r4), (0, .ref (ma a)), (1, .int p1), (2, .int p2), (3, .int p3), (4, .int p4)]) hx hb dX1_note_21 hl (by decide) rfl (fun ls hl => ?_)
    refine lv_aload_n hx hb dX1_note_23 rfl (lv_at hl 1 rfl) ?_
    refine lv_iload_n hx hb dX1_note_24 rfl (lv_at hl 4 rfl) ?_
    refine lv_iload hx hb dX1_note_25 (lv_at hl 5 rfl) ?_
    refine va_calli (va_runV (As := [.int p3, .int p4]) (rest := []) ⟨hx, hb, hml, hown, hts⟩ (c_X1_hasPlace l D a hO S4 p3 p4) (cwV 2 hts gX1_note_X1_hasPlace rfl rfl rfl hdX1_hasPlace ⟨Nat.le_of_ble_eq_true rfl, Nat.le_of_ble_eq_true rfl⟩) (mPreV hK hP) rfl rfl hl.1 rfl (lv_room (Nat.le_of_ble_eq_true rfl)) dX1_note_27 ⟨Nat.zero_le _, Nat.zero_le _⟩) hS (fun q _ h => h) (fun q h => h) (fun r6 S6 t H1 locs ht hvm hw6 hB hz1 hk1 hS => ?_)
    obtain ⟨hP, -⟩ := hB
    rw [ht] at hP
    refine lv_if_eq (tgt := 47) hx hb dX1_note_30 (by decide) (fun c8 => ?_) (fun c8 => ?_)
    · refine lv_aload_n hx hb dX1_note_47 rfl (lv_at hl 1 rfl) ?_
      refine lv_iconst (v := 0) hx hb dX1_note_48 (by decide) ?_
      refine va_calli (va_runV (As := [.int 0]) (rest := []) ⟨hx, hb, hml, hown, hts⟩ (c_X1_answer l D a hO S6 0) (cwV 1 hts gX1_note_X1_answer rfl rfl rfl hdX1_answer ⟨Nat.le_of_ble_eq_true rfl, Nat.le_of_ble_eq_true rfl⟩) (mPreV hK hP) rfl rfl hl.1 rfl (lv_room (Nat.le_of_ble_eq_true rfl)) dX1_note_49 ⟨Nat.zero_le _, Nat.zero_le _⟩) hS (fun q _ h => h) (fun q h => h) (fun r10 S10 t H1 locs ht hvm hw10 hB hz1 hk1 hS => ?_)
      obtain ⟨hP, -⟩ := hB
      rw [ht] at hP
      exact W.iret (v := r10) hx hb hr (fun t ht hW => ⟨⟨r10, S10, rfl, (by simp only [mF_note, hw1, if_neg c2, hw4, hw6, if_pos c8, hw10]), by rw [ht]; exact hP, va_K.moved hW.alike hK⟩, hS.F ht⟩) hS.2.2 dX1_note_52
    · have hj12 := me_place hI hw6 c8
      refine lv_aload_n hx hb dX1_note_33 rfl (lv_at hl 1 rfl) ?_
      refine m_get hx hb hts hu hown hK hP 3 (by decide) hf16 rfl (v := .ref (map' a)) rfl dX1_note_34 ?_
      refine lv_bipush (v := 24) hx hb dX1_note_37 (by decide) ?_
      refine lv_iload_n hx hb dX1_note_39 rfl (lv_at hl 4 rfl) ?_
      refine lv_imul hx hb dX1_note_40 ?_
      refine lv_iload hx hb dX1_note_41 (lv_at hl 5 rfl) ?_
      refine lv_iadd hx hb dX1_note_43 ?_
      refine lv_iload hx hb dX1_note_44 (lv_at hl 0 rfl) ?_
      refine m_stp hx hb hO hK hP hS hj12 dX1_note_46 (fun H locs hP hS => ?_)
      refine lv_aload_n hx hb dX1_note_47 rfl (lv_at hl 1 rfl) ?_
      refine lv_iconst (v := 0) hx hb dX1_note_48 (by decide) ?_
      refine va_calli (va_runV (As := [.int 0]) (rest := []) ⟨hx, hb, hml, hown, hts⟩ (c_X1_answer l D a hO (msp S6 ((24 * p3) + p4) r4) 0) (cwV 1 hts gX1_note_X1_answer rfl rfl rfl hdX1_answer ⟨Nat.le_of_ble_eq_true rfl, Nat.le_of_ble_eq_true rfl⟩) (mPreV hK hP) rfl rfl hl.1 rfl (lv_room (Nat.le_of_ble_eq_true rfl)) dX1_note_49 ⟨Nat.zero_le _, Nat.zero_le _⟩) hS (fun q _ h => h) (fun q h => h) (fun r13 S13 t H1 locs ht hvm hw13 hB hz1 hk1 hS => ?_)
      obtain ⟨hP, -⟩ := hB
      rw [ht] at hP
      exact W.iret (v := r13) hx hb hr (fun t ht hW => ⟨⟨r13, S13, rfl, (by simp only [mF_note, hw1, if_neg c2, hw4, hw6, if_neg c8, hw13]), by rw [ht]; exact hP, va_K.moved hW.alike hK⟩, hS.F ht⟩) hS.2.2 dX1_note_52
  · refine lv_ldc (v := (-300000)) hx hb hown hk50 dX1_note_7 ?_
    exact W.iret (v := (-300000)) hx hb hr (fun t ht hW => ⟨⟨(-300000), S, rfl, (by simp only [mF_note, hw1, if_pos c2]), by rw [ht]; exact hP, va_K.moved hW.alike hK⟩, hS.F ht⟩) hS.2.2 dX1_note_9
def mF_chart (S : MS) (p1 p2 : Int32) : Int32 × MS := (let q1 := mF_hasPlace (msFa S 0) p1 p2; (if q1.1 = 0 then (let q5 := mF_answer q1.2 0; (q5.1, q5.2)) else (let q8 := mF_answer q1.2 (mp q1.2 ((24 * p1) + p2)); (q8.1, q8.2))))
theorem hdX1_chart : yX1_chart.cls = RX1 ∧ yX1_chart.cls ≠ "java/lang/invoke/MethodHandle" ∧ yX1_chart.cls ≠ "java/lang/invoke/VarHandle" ∧ (parseMethodDescriptor yX1_chart.desc).map (fun d => d.parameters.length) = some 2 := by decide +kernel
set_option maxHeartbeats 4000000 in
set_option maxRecDepth 100000 in
theorem c_X1_chart (l : Launch) (D : va_G) (a : MA) (hO : mOk a) (S : MS) (p1 p2 : Int32) (hI : mI S) : Met l yX1_chart wsX1_chart ({ frames := 2, cells := 0, slots := 0, locals := 43 }) (va_Pc [.ref (ma a), .int p1, .int p2] (mB D a S)) (mQi D a (mF_chart S p1 p2)) 0 0 (mA a) := by
  refine Met.ofW (cc := cX1_chart) (maxL := 4) (ret := (some .int)) (by decide) rfl ?_
  intro p e s m args below meth c s₁ B hml hv
  obtain ⟨rfl, hP, hK⟩ := hv
  have hx := B.exec
  have hb := B.bytes
  have hr := B.returns
  have hts := atoms_spec (ws := wsX1_chart) B.pre
  have hown : s.vm.findClass RX1 = some m.cls := findClass_of_methodNamed B.named
  have hlocks := B.notSynchronized
  have hS : va_S (mA a) s.heap s.heap [] := va_S.rf
  have hP : va_P D vwCl (mW a S) s.heap := hP
  have hu : ∀ w ∈ wsX10, w ∈ wsX1_chart := fun _ h => List.mem_cons_of_mem _ (List.mem_append_right _ h)
  have hf23 := hts (.fieldLink RX1 23 "FlightBooksModel" "fault" "I") (by decide +kernel)
  have hf16 := hts (.fieldLink RX1 16 "FlightBooksModel" "places" "[I") (by decide +kernel)
  have hl := lv_entry ([.ref (ma a), .int p1, .int p2]) (n := 4) (Nat.le_of_ble_eq_true rfl)
  rw [lg_entry_eq]
  generalize (lg_sl ([.ref (ma a), .int p1, .int p2]) ++ List.replicate (4 - (lg_sl ([.ref (ma a), .int p1, .int p2])).length) Slot.unset).toArray = ls at hl ⊢
  have hl : lv_has ls 4 [(0, .ref (ma a)), (1, .int p1), (2, .int p2)] := hl
  refine lv_aload_n hx hb dX1_chart_0 rfl (lv_at hl 0 rfl) ?_
  refine lv_iconst (v := 0) hx hb dX1_chart_1 (by decide) ?_
  refine m_puti hx hb hts hu hown hO hK hP hS 11 (by decide) hf23 rfl rfl (by decide +kernel) (msFa S) (fun _ => rfl) (fun _ => rfl) dX1_chart_2 (fun H locs hP hS => ?_)
  have hI := mI_fault 0 hI
  refine lv_aload_n hx hb dX1_chart_5 rfl (lv_at hl 0 rfl) ?_
  refine lv_iload_n hx hb dX1_chart_6 rfl (lv_at hl 1 rfl) ?_
  refine lv_iload_n hx hb dX1_chart_7 rfl (lv_at hl 2 rfl) ?_
  refine va_calli (va_runV (As := [.int p1, .int p2]) (rest := []) ⟨hx, hb, hml, hown, hts⟩ (c_X1_hasPlace l D a hO (msFa S 0) p1 p2) (cwV 2 hts gX1_chart_X1_hasPlace rfl rfl rfl hdX1_hasPlace ⟨Nat.le_of_ble_eq_true rfl, Nat.le_of_ble_eq_true rfl⟩) (mPreV hK hP) rfl rfl hl.1 rfl (lv_room (Nat.le_of_ble_eq_true rfl)) dX1_chart_8 ⟨Nat.zero_le _, Nat.zero_le _⟩) hS (fun q _ h => h) (fun q h => h) (fun r1 S1 t H1 locs ht hvm hw1 hB hz1 hk1 hS => ?_)
  obtain ⟨hP, -⟩ := hB
  rw [ht] at hP
  refine lv_if_eq (tgt := 28) hx hb dX1_chart_11 (by decide) (fun c3 => ?_) (fun c3 => ?_)
  · refine lv_iconst (v := 0) hx hb dX1_chart_28 (by decide) ?_
    refine lv_istore_n (lv' := [(3, .int 0), (0, .ref (ma a)), (1, .int p1), (2, .int p2)]) hx hb dX1_chart_29 rfl hl (by decide) rfl (fun ls hl => ?_)
    refine lv_aload_n hx hb dX1_chart_30 rfl (lv_at hl 1 rfl) ?_
    refine lv_iload_n hx hb dX1_chart_31 rfl (lv_at hl 0 rfl) ?_
    refine va_calli (va_runV (As := [.int 0]) (rest := []) ⟨hx, hb, hml, hown, hts⟩ (c_X1_answer l D a hO S1 0) (cwV 1 hts gX1_chart_X1_answer rfl rfl rfl hdX1_answer ⟨Nat.le_of_ble_eq_true rfl, Nat.le_of_ble_eq_true rfl⟩) (mPreV hK hP) rfl rfl hl.1 rfl (lv_room (Nat.le_of_ble_eq_true rfl)) dX1_chart_32 ⟨Nat.zero_le _, Nat.zero_le _⟩) hS (fun q _ h => h) (fun q h => h) (fun r5 S5 t H1 locs ht hvm hw5 hB hz1 hk1 hS => ?_)
    obtain ⟨hP, -⟩ := hB
    rw [ht] at hP
    exact W.iret (v := r5) hx hb hr (fun t ht hW => ⟨⟨r5, S5, rfl, (by simp only [mF_chart, hw1, if_pos c3, hw5]), by rw [ht]; exact hP, va_K.moved hW.alike hK⟩, hS.F ht⟩) hS.2.2 dX1_chart_35
  · have hj7 := me_place hI hw1 c3
    refine lv_aload_n hx hb dX1_chart_14 rfl (lv_at hl 0 rfl) ?_
    refine m_get hx hb hts hu hown hK hP 3 (by decide) hf16 rfl (v := .ref (map' a)) rfl dX1_chart_15 ?_
    refine lv_bipush (v := 24) hx hb dX1_chart_18 (by decide) ?_
    refine lv_iload_n hx hb dX1_chart_20 rfl (lv_at hl 1 rfl) ?_
    refine lv_imul hx hb dX1_chart_21 ?_
    refine lv_iload_n hx hb dX1_chart_22 rfl (lv_at hl 2 rfl) ?_
    refine lv_iadd hx hb dX1_chart_23 ?_
    refine m_ldp hx hb hK hP hj7 dX1_chart_24 ?_
    refine lv_goto (tgt := 29) hx hb dX1_chart_25 (by decide) ?_
    refine lv_istore_n (lv' := [(3, .int (mp S1 ((24 * p1) + p2))), (0, .ref (ma a)), (1, .int p1), (2, .int p2)]) hx hb dX1_chart_29 rfl hl (by decide) rfl (fun ls hl => ?_)
    refine lv_aload_n hx hb dX1_chart_30 rfl (lv_at hl 1 rfl) ?_
    refine lv_iload_n hx hb dX1_chart_31 rfl (lv_at hl 0 rfl) ?_
    refine va_calli (va_runV (As := [.int (mp S1 ((24 * p1) + p2))]) (rest := []) ⟨hx, hb, hml, hown, hts⟩ (c_X1_answer l D a hO S1 (mp S1 ((24 * p1) + p2))) (cwV 1 hts gX1_chart_X1_answer rfl rfl rfl hdX1_answer ⟨Nat.le_of_ble_eq_true rfl, Nat.le_of_ble_eq_true rfl⟩) (mPreV hK hP) rfl rfl hl.1 rfl (lv_room (Nat.le_of_ble_eq_true rfl)) dX1_chart_32 ⟨Nat.zero_le _, Nat.zero_le _⟩) hS (fun q _ h => h) (fun q h => h) (fun r8 S8 t H1 locs ht hvm hw8 hB hz1 hk1 hS => ?_)
    obtain ⟨hP, -⟩ := hB
    rw [ht] at hP
    exact W.iret (v := r8) hx hb hr (fun t ht hW => ⟨⟨r8, S8, rfl, (by simp only [mF_chart, hw1, if_neg c3, hw8]), by rw [ht]; exact hP, va_K.moved hW.alike hK⟩, hS.F ht⟩) hS.2.2 dX1_chart_35
def mF_columns (S : MS) (p1 : Int32) : Int32 × MS := (let q1 := mF_hasRow (msFa S 0) p1; (if q1.1 = 0 then (let q5 := mF_answer q1.2 0; (q5.1, q5.2)) else (let q8 := mF_answer q1.2 (mAc q1.2); (q8.1, q8.2))))
theorem hdX1_columns : yX1_columns.cls = RX1 ∧ yX1_columns.cls ≠ "java/lang/invoke/MethodHandle" ∧ yX1_columns.cls ≠ "java/lang/invoke/VarHandle" ∧ (parseMethodDescriptor yX1_columns.desc).map (fun d => d.parameters.length) = some 1 := by decide +kernel
set_option maxHeartbeats 4000000 in
set_option maxRecDepth 100000 in
theorem c_X1_columns (l : Launch) (D : va_G) (a : MA) (hO : mOk a) (S : MS) (p1 : Int32) : Met l yX1_columns wsX1_columns ({ frames := 1, cells := 0, slots := 0, locals := 21 }) (va_Pc [.ref (ma a), .int p1] (mB D a S)) (mQi D a (mF_columns S p1)) 0 0 (mA a) := by
  refine Met.ofW (cc := cX1_columns) (maxL := 3) (ret := (some .int)) (by decide) rfl ?_
  intro p e s m args below meth c s₁ B hml hv
  obtain ⟨rfl, hP, hK⟩ := hv
  have hx := B.exec
  have hb := B.bytes
  have hr := B.returns
  have hts := atoms_spec (ws := wsX1_columns) B.pre
  have hown : s.vm.findClass RX1 = some m.cls := findClass_of_methodNamed B.named
  have hlocks := B.notSynchronized
  have hS : va_S (mA a) s.heap s.heap [] := va_S.rf
  have hP : va_P D vwCl (mW a S) s.heap := hP
  have hu : ∀ w ∈ wsX10, w ∈ wsX1_columns := fun _ h => List.mem_cons_of_mem _ (List.mem_append_right _ h)
  have hf23 := hts (.fieldLink RX1 23 "FlightBooksModel" "fault" "I") (by decide +kernel)
  have hf91 := hts (.fieldLink RX1 91 "FlightBooksModel" "across" "I") (by decide +kernel)
  have hl := lv_entry ([.ref (ma a), .int p1]) (n := 3) (Nat.le_of_ble_eq_true rfl)
  rw [lg_entry_eq]
  generalize (lg_sl ([.ref (ma a), .int p1]) ++ List.replicate (3 - (lg_sl ([.ref (ma a), .int p1])).length) Slot.unset).toArray = ls at hl ⊢
  have hl : lv_has ls 3 [(0, .ref (ma a)), (1, .int p1)] := hl
  refine lv_aload_n hx hb dX1_columns_0 rfl (lv_at hl 0 rfl) ?_
  refine lv_iconst (v := 0) hx hb dX1_columns_1 (by decide) ?_
  refine m_puti hx hb hts hu hown hO hK hP hS 11 (by decide) hf23 rfl rfl (by decide +kernel) (msFa S) (fun _ => rfl) (fun _ => rfl) dX1_columns_2 (fun H locs hP hS => ?_)
  refine lv_aload_n hx hb dX1_columns_5 rfl (lv_at hl 0 rfl) ?_
  refine lv_iload_n hx hb dX1_columns_6 rfl (lv_at hl 1 rfl) ?_
  refine va_calli (va_runV (As := [.int p1]) (rest := []) ⟨hx, hb, hml, hown, hts⟩ (c_X1_hasRow l D a hO (msFa S 0) p1) (cwV 1 hts gX1_columns_X1_hasRow rfl rfl rfl hdX1_hasRow ⟨Nat.le_of_ble_eq_true rfl, Nat.le_of_ble_eq_true rfl⟩) (mPreV hK hP) rfl rfl hl.1 rfl (lv_room (Nat.le_of_ble_eq_true rfl)) dX1_columns_7 ⟨Nat.zero_le _, Nat.zero_le _⟩) hS (fun q _ h => h) (fun q h => h) (fun r1 S1 t H1 locs ht hvm hw1 hB hz1 hk1 hS => ?_)
  obtain ⟨hP, -⟩ := hB
  rw [ht] at hP
  refine lv_if_eq (tgt := 20) hx hb dX1_columns_10 (by decide) (fun c3 => ?_) (fun c3 => ?_)
  · refine lv_iconst (v := 0) hx hb dX1_columns_20 (by decide) ?_
    refine lv_istore_n (lv' := [(2, .int 0), (0, .ref (ma a)), (1, .int p1)]) hx hb dX1_columns_21 rfl hl (by decide) rfl (fun ls hl => ?_)
    refine lv_aload_n hx hb dX1_columns_22 rfl (lv_at hl 1 rfl) ?_
    refine lv_iload_n hx hb dX1_columns_23 rfl (lv_at hl 0 rfl) ?_
    refine va_calli (va_runV (As := [.int 0]) (rest := []) ⟨hx, hb, hml, hown, hts⟩ (c_X1_answer l D a hO S1 0) (cwV 1 hts gX1_columns_X1_answer rfl rfl rfl hdX1_answer ⟨Nat.le_of_ble_eq_true rfl, Nat.le_of_ble_eq_true rfl⟩) (mPreV hK hP) rfl rfl hl.1 rfl (lv_room (Nat.le_of_ble_eq_true rfl)) dX1_columns_24 ⟨Nat.zero_le _, Nat.zero_le _⟩) hS (fun q _ h => h) (fun q h => h) (fun r5 S5 t H1 locs ht hvm hw5 hB hz1 hk1 hS => ?_)
    obtain ⟨hP, -⟩ := hB
    rw [ht] at hP
    exact W.iret (v := r5) hx hb hr (fun t ht hW => ⟨⟨r5, S5, rfl, (by simp only [mF_columns, hw1, if_pos c3, hw5]), by rw [ht]; exact hP, va_K.moved hW.alike hK⟩, hS.F ht⟩) hS.2.2 dX1_columns_27
  · refine lv_aload_n hx hb dX1_columns_13 rfl (lv_at hl 0 rfl) ?_
    refine m_get hx hb hts hu hown hK hP 6 (by decide) hf91 rfl (v := .int (mAc S1)) rfl dX1_columns_14 ?_
    refine lv_goto (tgt := 21) hx hb dX1_columns_17 (by decide) ?_
    refine lv_istore_n (lv' := [(2, .int (mAc S1)), (0, .ref (ma a)), (1, .int p1)]) hx hb dX1_columns_21 rfl hl (by decide) rfl (fun ls hl => ?_)
    refine lv_aload_n hx hb dX1_columns_22 rfl (lv_at hl 1 rfl) ?_
    refine lv_iload_n hx hb dX1_columns_23 rfl (lv_at hl 0 rfl) ?_
    refine va_calli (va_runV (As := [.int (mAc S1)]) (rest := []) ⟨hx, hb, hml, hown, hts⟩ (c_X1_answer l D a hO S1 (mAc S1)) (cwV 1 hts gX1_columns_X1_answer rfl rfl rfl hdX1_answer ⟨Nat.le_of_ble_eq_true rfl, Nat.le_of_ble_eq_true rfl⟩) (mPreV hK hP) rfl rfl hl.1 rfl (lv_room (Nat.le_of_ble_eq_true rfl)) dX1_columns_24 ⟨Nat.zero_le _, Nat.zero_le _⟩) hS (fun q _ h => h) (fun q h => h) (fun r8 S8 t H1 locs ht hvm hw8 hB hz1 hk1 hS => ?_)
    obtain ⟨hP, -⟩ := hB
    rw [ht] at hP
    exact W.iret (v := r8) hx hb hr (fun t ht hW => ⟨⟨r8, S8, rfl, (by simp only [mF_columns, hw1, if_neg c3, hw8]), by rw [ht]; exact hP, va_K.moved hW.alike hK⟩, hS.F ht⟩) hS.2.2 dX1_columns_27
