def xF_endsAtBook (S : XS) (p1 : Int32) : Int32 × XS := (if (xc S p1) = (-1) then (let q2 := xF_ended S ((-100000) - p1); (q2.1, q2.2)) else (0, S))
theorem hdX0_endsAtBook : yX0_endsAtBook.cls = RX0 ∧ yX0_endsAtBook.cls ≠ "java/lang/invoke/MethodHandle" ∧ yX0_endsAtBook.cls ≠ "java/lang/invoke/VarHandle" ∧ (parseMethodDescriptor yX0_endsAtBook.desc).map (fun d => d.parameters.length) = some 1 := by decide +kernel
set_option maxHeartbeats 4000000 in
set_option maxRecDepth 100000 in
theorem c_X0_endsAtBook (l : Launch) (D : va_G) (a : XA) (hO : xOk a) (S : XS) (p1 : Int32) (h5_0 : vp_in p1 5) : Met l yX0_endsAtBook wsX0_endsAtBook ({ frames := 1, cells := 0, slots := 0, locals := 21 }) (va_Pc [.ref (xa a), .int p1] (xB D a S)) (xQi D a (xF_endsAtBook S p1)) 0 0 (xA a) := by
  refine Met.ofW (cc := cX0_endsAtBook) (maxL := 2) (ret := (some .boolean)) (by decide) rfl ?_
  intro p e s m args below meth c s₁ B hml hv
  obtain ⟨rfl, hP, hK⟩ := hv
  have hx := B.exec
  have hb := B.bytes
  have hr := B.returns
  have hts := atoms_spec (ws := wsX0_endsAtBook) B.pre
  have hown : s.vm.findClass RX0 = some m.cls := findClass_of_methodNamed B.named
  have hlocks := B.notSynchronized
  have hS : va_S (xA a) s.heap s.heap [] := va_S.rf
  have hP : va_P D vwCl (xW a S) s.heap := hP
  have hu : ∀ w ∈ wsX00, w ∈ wsX0_endsAtBook := fun _ h => List.mem_cons_of_mem _ (List.mem_append_right _ h)
  have hf9 := hts (.fieldLink RX0 9 "FlightBooks" "lineCounts" "[I") (by decide +kernel)
  have hk110 := hts (.constant RX0 110 (-100000)) (by decide +kernel)
  have hl := lv_entry ([.ref (xa a), .int p1]) (n := 2) (Nat.le_of_ble_eq_true rfl)
  rw [lg_entry_eq]
  generalize (lg_sl ([.ref (xa a), .int p1]) ++ List.replicate (2 - (lg_sl ([.ref (xa a), .int p1])).length) Slot.unset).toArray = ls at hl ⊢
  have hl : lv_has ls 2 [(0, .ref (xa a)), (1, .int p1)] := hl
  refine lv_aload_n hx hb dX0_endsAtBook_0 rfl (lv_at hl 0 rfl) ?_
  refine x_get hx hb hts hu hown hK hP 1 (by decide) hf9 rfl (v := .ref (xac a)) rfl dX0_endsAtBook_1 ?_
  refine lv_iload_n hx hb dX0_endsAtBook_4 rfl (lv_at hl 1 rfl) ?_
  refine x_ldc hx hb hK hP h5_0 dX0_endsAtBook_5 ?_
  refine lv_iconst (v := (-1)) hx hb dX0_endsAtBook_6 (by decide) ?_
  refine lv_icmp_ne (tgt := 19) hx hb dX0_endsAtBook_7 (by decide) (fun c1 => ?_) (fun c1 => ?_)
  · refine lv_iconst (v := 0) hx hb dX0_endsAtBook_19 (by decide) ?_
    exact W.zret (v := 0) hx hb hr rfl (fun t ht hW => ⟨⟨0, S, rfl, (by simp only [xF_endsAtBook, if_neg c1]), by rw [ht]; exact hP, va_K.moved hW.alike hK⟩, hS.F ht⟩) hS.2.2 dX0_endsAtBook_20
  · refine lv_aload_n hx hb dX0_endsAtBook_10 rfl (lv_at hl 0 rfl) ?_
    refine lv_ldc (v := (-100000)) hx hb hown hk110 dX0_endsAtBook_11 ?_
    refine lv_iload_n hx hb dX0_endsAtBook_13 rfl (lv_at hl 1 rfl) ?_
    refine lv_isub hx hb dX0_endsAtBook_14 ?_
    refine va_calli (va_runV (As := [.int ((-100000) - p1)]) (rest := []) ⟨hx, hb, hml, hown, hts⟩ (c_X0_ended l D a hO S ((-100000) - p1)) (cwV 1 hts gX0_endsAtBook_X0_ended rfl rfl rfl hdX0_ended ⟨Nat.le_of_ble_eq_true rfl, Nat.le_of_ble_eq_true rfl⟩) (xPreV hK hP) rfl rfl hl.1 rfl (lv_room (Nat.le_of_ble_eq_true rfl)) dX0_endsAtBook_15 ⟨Nat.zero_le _, Nat.zero_le _⟩) hS (fun q _ h => h) (fun q h => h) (fun r2 S2 t H1 locs ht hvm hw2 hB hz1 hk1 hS => ?_)
    obtain ⟨hP, -⟩ := hB
    rw [ht] at hP
    have hone3 := xe_ended hw2
    subst hone3
    exact W.zret (v := 1) hx hb hr rfl (fun t ht hW => ⟨⟨1, S2, rfl, (by simp only [xF_endsAtBook, if_pos c1, hw2]), by rw [ht]; exact hP, va_K.moved hW.alike hK⟩, hS.F ht⟩) hS.2.2 dX0_endsAtBook_18
theorem xe_endsAtBook {S S1 : XS} {b r : Int32} (h : xF_endsAtBook S b = (r, S1)) (c : r = 0) : S = S1 := by
  unfold xF_endsAtBook at h
  by_cases h1 : xc S b = -1
  · rw [if_pos h1] at h; exact absurd ((Prod.mk.inj h).1.trans c) (by simp [xF_ended])
  · rw [if_neg h1] at h; exact (Prod.mk.inj h).2
def xF_endsAtLine (S : XS) (p1 p2 : Int32) : Int32 × XS := (let q1 := xF_endsAtBook S p1; (if q1.1 = 0 then (if p2 < 0 then (let q6 := xF_ended q1.2 ((-200000) - p1); (q6.1, q6.2)) else (if p2 < (xc q1.2 p1) then (0, q1.2) else (let q9 := xF_ended q1.2 ((-200000) - p1); (q9.1, q9.2)))) else (1, q1.2)))
theorem hdX0_endsAtLine : yX0_endsAtLine.cls = RX0 ∧ yX0_endsAtLine.cls ≠ "java/lang/invoke/MethodHandle" ∧ yX0_endsAtLine.cls ≠ "java/lang/invoke/VarHandle" ∧ (parseMethodDescriptor yX0_endsAtLine.desc).map (fun d => d.parameters.length) = some 2 := by decide +kernel
set_option maxHeartbeats 4000000 in
set_option maxRecDepth 100000 in
theorem c_X0_endsAtLine (l : Launch) (D : va_G) (a : XA) (hO : xOk a) (S : XS) (p1 p2 : Int32) (hI : xI S) (h5_0 : vp_in p1 5) : Met l yX0_endsAtLine wsX0_endsAtLine ({ frames := 2, cells := 0, slots := 0, locals := 42 }) (va_Pc [.ref (xa a), .int p1, .int p2] (xB D a S)) (xQi D a (xF_endsAtLine S p1 p2)) 0 0 (xA a) := by
  refine Met.ofW (cc := cX0_endsAtLine) (maxL := 3) (ret := (some .boolean)) (by decide) rfl ?_
  intro p e s m args below meth c s₁ B hml hv
  obtain ⟨rfl, hP, hK⟩ := hv
  have hx := B.exec
  have hb := B.bytes
  have hr := B.returns
  have hts := atoms_spec (ws := wsX0_endsAtLine) B.pre
  have hown : s.vm.findClass RX0 = some m.cls := findClass_of_methodNamed B.named
  have hlocks := B.notSynchronized
  have hS : va_S (xA a) s.heap s.heap [] := va_S.rf
  have hP : va_P D vwCl (xW a S) s.heap := hP
  have hu : ∀ w ∈ wsX00, w ∈ wsX0_endsAtLine := fun _ h => List.mem_cons_of_mem _ (List.mem_append_right _ h)
  have hk114 := hts (.constant RX0 114 (-200000)) (by decide +kernel)
  have hf9 := hts (.fieldLink RX0 9 "FlightBooks" "lineCounts" "[I") (by decide +kernel)
  have hl := lv_entry ([.ref (xa a), .int p1, .int p2]) (n := 3) (Nat.le_of_ble_eq_true rfl)
  rw [lg_entry_eq]
  generalize (lg_sl ([.ref (xa a), .int p1, .int p2]) ++ List.replicate (3 - (lg_sl ([.ref (xa a), .int p1, .int p2])).length) Slot.unset).toArray = ls at hl ⊢
  have hl : lv_has ls 3 [(0, .ref (xa a)), (1, .int p1), (2, .int p2)] := hl
  refine lv_aload_n hx hb dX0_endsAtLine_0 rfl (lv_at hl 0 rfl) ?_
  refine lv_iload_n hx hb dX0_endsAtLine_1 rfl (lv_at hl 1 rfl) ?_
  refine va_calli (va_runV (As := [.int p1]) (rest := []) ⟨hx, hb, hml, hown, hts⟩ (c_X0_endsAtBook l D a hO S p1 h5_0) (cwV 1 hts gX0_endsAtLine_X0_endsAtBook rfl rfl rfl hdX0_endsAtBook ⟨Nat.le_of_ble_eq_true rfl, Nat.le_of_ble_eq_true rfl⟩) (xPreV hK hP) rfl rfl hl.1 rfl (lv_room (Nat.le_of_ble_eq_true rfl)) dX0_endsAtLine_2 ⟨Nat.zero_le _, Nat.zero_le _⟩) hS (fun q _ h => h) (fun q h => h) (fun r1 S1 t H1 locs ht hvm hw1 hB hz1 hk1 hS => ?_)
  obtain ⟨hP, -⟩ := hB
  rw [ht] at hP
  refine lv_if_eq (tgt := 10) hx hb dX0_endsAtLine_5 (by decide) (fun c3 => ?_) (fun c3 => ?_)
  · have hs4 := xe_endsAtBook hw1 c3
    subst hs4
    refine lv_iload_n hx hb dX0_endsAtLine_10 rfl (lv_at hl 2 rfl) ?_
    refine lv_if_lt (tgt := 24) hx hb dX0_endsAtLine_11 (by decide) (fun c5 => ?_) (fun c5 => ?_)
    · refine lv_aload_n hx hb dX0_endsAtLine_24 rfl (lv_at hl 0 rfl) ?_
      refine lv_ldc (v := (-200000)) hx hb hown hk114 dX0_endsAtLine_25 ?_
      refine lv_iload_n hx hb dX0_endsAtLine_27 rfl (lv_at hl 1 rfl) ?_
      refine lv_isub hx hb dX0_endsAtLine_28 ?_
      refine va_calli (va_runV (As := [.int ((-200000) - p1)]) (rest := []) ⟨hx, hb, hml, hown, hts⟩ (c_X0_ended l D a hO S ((-200000) - p1)) (cwV 1 hts gX0_endsAtLine_X0_ended rfl rfl rfl hdX0_ended ⟨Nat.le_of_ble_eq_true rfl, Nat.le_of_ble_eq_true rfl⟩) (xPreV hK hP) rfl rfl hl.1 rfl (lv_room (Nat.le_of_ble_eq_true rfl)) dX0_endsAtLine_29 ⟨Nat.zero_le _, Nat.zero_le _⟩) hS (fun q _ h => h) (fun q h => h) (fun r6 S6 t H1 locs ht hvm hw6 hB hz1 hk1 hS => ?_)
      obtain ⟨hP, -⟩ := hB
      rw [ht] at hP
      have hone7 := xe_ended hw6
      subst hone7
      exact W.zret (v := 1) hx hb hr rfl (fun t ht hW => ⟨⟨1, S6, rfl, (by simp only [xF_endsAtLine, hw1, if_pos c3, if_pos c5, hw6]), by rw [ht]; exact hP, va_K.moved hW.alike hK⟩, hS.F ht⟩) hS.2.2 dX0_endsAtLine_32
    · refine lv_iload_n hx hb dX0_endsAtLine_14 rfl (lv_at hl 2 rfl) ?_
      refine lv_aload_n hx hb dX0_endsAtLine_15 rfl (lv_at hl 0 rfl) ?_
      refine x_get hx hb hts hu hown hK hP 1 (by decide) hf9 rfl (v := .ref (xac a)) rfl dX0_endsAtLine_16 ?_
      refine lv_iload_n hx hb dX0_endsAtLine_19 rfl (lv_at hl 1 rfl) ?_
      refine x_ldc hx hb hK hP h5_0 dX0_endsAtLine_20 ?_
      refine lv_icmp_lt (tgt := 33) hx hb dX0_endsAtLine_21 (by decide) (fun c8 => ?_) (fun c8 => ?_)
      · refine lv_iconst (v := 0) hx hb dX0_endsAtLine_33 (by decide) ?_
        exact W.zret (v := 0) hx hb hr rfl (fun t ht hW => ⟨⟨0, S, rfl, (by simp only [xF_endsAtLine, hw1, if_pos c3, if_neg c5, if_pos c8]), by rw [ht]; exact hP, va_K.moved hW.alike hK⟩, hS.F ht⟩) hS.2.2 dX0_endsAtLine_34
      · refine lv_aload_n hx hb dX0_endsAtLine_24 rfl (lv_at hl 0 rfl) ?_
        refine lv_ldc (v := (-200000)) hx hb hown hk114 dX0_endsAtLine_25 ?_
        refine lv_iload_n hx hb dX0_endsAtLine_27 rfl (lv_at hl 1 rfl) ?_
        refine lv_isub hx hb dX0_endsAtLine_28 ?_
        refine va_calli (va_runV (As := [.int ((-200000) - p1)]) (rest := []) ⟨hx, hb, hml, hown, hts⟩ (c_X0_ended l D a hO S ((-200000) - p1)) (cwV 1 hts gX0_endsAtLine_X0_ended rfl rfl rfl hdX0_ended ⟨Nat.le_of_ble_eq_true rfl, Nat.le_of_ble_eq_true rfl⟩) (xPreV hK hP) rfl rfl hl.1 rfl (lv_room (Nat.le_of_ble_eq_true rfl)) dX0_endsAtLine_29 ⟨Nat.zero_le _, Nat.zero_le _⟩) hS (fun q _ h => h) (fun q h => h) (fun r9 S9 t H1 locs ht hvm hw9 hB hz1 hk1 hS => ?_)
        obtain ⟨hP, -⟩ := hB
        rw [ht] at hP
        have hone10 := xe_ended hw9
        subst hone10
        exact W.zret (v := 1) hx hb hr rfl (fun t ht hW => ⟨⟨1, S9, rfl, (by simp only [xF_endsAtLine, hw1, if_pos c3, if_neg c5, if_neg c8, hw9]), by rw [ht]; exact hP, va_K.moved hW.alike hK⟩, hS.F ht⟩) hS.2.2 dX0_endsAtLine_32
  · refine lv_iconst (v := 1) hx hb dX0_endsAtLine_8 (by decide) ?_
    exact W.zret (v := 1) hx hb hr rfl (fun t ht hW => ⟨⟨1, S1, rfl, (by simp only [xF_endsAtLine, hw1, if_neg c3]), by rw [ht]; exact hP, va_K.moved hW.alike hK⟩, hS.F ht⟩) hS.2.2 dX0_endsAtLine_9
theorem xe_endsAtLine {S S1 : XS} {b i r : Int32} (hI : xI S) (h5 : vp_in b 5) (h : xF_endsAtLine S b i = (r, S1)) (c : r = 0) : vp_in i 24 ∧ S = S1 := by
  cases hq : xF_endsAtBook S b with
  | mk r2 S2 =>
    simp only [xF_endsAtLine, hq] at h
    by_cases h1 : r2 = 0
    · have e := xe_endsAtBook hq h1
      subst e
      rw [if_pos h1] at h
      by_cases h2 : i < 0
      · rw [if_pos h2] at h; exact absurd ((Prod.mk.inj h).1.trans c) (by simp [xF_ended])
      · rw [if_neg h2] at h
        by_cases h3 : i < xc S b
        · rw [if_pos h3] at h; exact ⟨in_of (hI.1 _ (vk_lt h5)).2 h2 h3, (Prod.mk.inj h).2⟩
        · rw [if_neg h3] at h; exact absurd ((Prod.mk.inj h).1.trans c) (by simp [xF_ended])
    · rw [if_neg h1] at h; exact absurd ((Prod.mk.inj h).1.trans c) (by decide)
def xF_endsAtRow (S : XS) (p1 : Int32) : Int32 × XS := (if (xRc S) = (-1) then (let q8 := xF_ended S (-100005); (q8.1, q8.2)) else (if p1 < 0 then (let q3 := xF_ended S (-200005); (q3.1, q3.2)) else (if p1 < (xRc S) then (0, S) else (let q6 := xF_ended S (-200005); (q6.1, q6.2)))))
theorem hdX0_endsAtRow : yX0_endsAtRow.cls = RX0 ∧ yX0_endsAtRow.cls ≠ "java/lang/invoke/MethodHandle" ∧ yX0_endsAtRow.cls ≠ "java/lang/invoke/VarHandle" ∧ (parseMethodDescriptor yX0_endsAtRow.desc).map (fun d => d.parameters.length) = some 1 := by decide +kernel
set_option maxHeartbeats 4000000 in
set_option maxRecDepth 100000 in
theorem c_X0_endsAtRow (l : Launch) (D : va_G) (a : XA) (hO : xOk a) (S : XS) (p1 : Int32) : Met l yX0_endsAtRow wsX0_endsAtRow ({ frames := 1, cells := 0, slots := 0, locals := 21 }) (va_Pc [.ref (xa a), .int p1] (xB D a S)) (xQi D a (xF_endsAtRow S p1)) 0 0 (xA a) := by
  refine Met.ofW (cc := cX0_endsAtRow) (maxL := 2) (ret := (some .boolean)) (by decide) rfl ?_
  intro p e s m args below meth c s₁ B hml hv
  obtain ⟨rfl, hP, hK⟩ := hv
  have hx := B.exec
  have hb := B.bytes
  have hr := B.returns
  have hts := atoms_spec (ws := wsX0_endsAtRow) B.pre
  have hown : s.vm.findClass RX0 = some m.cls := findClass_of_methodNamed B.named
  have hlocks := B.notSynchronized
  have hS : va_S (xA a) s.heap s.heap [] := va_S.rf
  have hP : va_P D vwCl (xW a S) s.heap := hP
  have hu : ∀ w ∈ wsX00, w ∈ wsX0_endsAtRow := fun _ h => List.mem_cons_of_mem _ (List.mem_append_right _ h)
  have hf21 := hts (.fieldLink RX0 21 "FlightBooks" "rowCount" "I") (by decide +kernel)
  have hk116 := hts (.constant RX0 116 (-200005)) (by decide +kernel)
  have hk115 := hts (.constant RX0 115 (-100005)) (by decide +kernel)
  have hl := lv_entry ([.ref (xa a), .int p1]) (n := 2) (Nat.le_of_ble_eq_true rfl)
  rw [lg_entry_eq]
  generalize (lg_sl ([.ref (xa a), .int p1]) ++ List.replicate (2 - (lg_sl ([.ref (xa a), .int p1])).length) Slot.unset).toArray = ls at hl ⊢
  have hl : lv_has ls 2 [(0, .ref (xa a)), (1, .int p1)] := hl
  refine lv_aload_n hx hb dX0_endsAtRow_0 rfl (lv_at hl 0 rfl) ?_
  refine x_get hx hb hts hu hown hK hP 4 (by decide) hf21 rfl (v := .int (xRc S)) rfl dX0_endsAtRow_1 ?_
  refine lv_iconst (v := (-1)) hx hb dX0_endsAtRow_4 (by decide) ?_
  refine lv_icmp_ne (tgt := 15) hx hb dX0_endsAtRow_5 (by decide) (fun c1 => ?_) (fun c1 => ?_)
  · refine lv_iload_n hx hb dX0_endsAtRow_15 rfl (lv_at hl 1 rfl) ?_
    refine lv_if_lt (tgt := 27) hx hb dX0_endsAtRow_16 (by decide) (fun c2 => ?_) (fun c2 => ?_)
    · refine lv_aload_n hx hb dX0_endsAtRow_27 rfl (lv_at hl 0 rfl) ?_
      refine lv_ldc (v := (-200005)) hx hb hown hk116 dX0_endsAtRow_28 ?_
      refine va_calli (va_runV (As := [.int (-200005)]) (rest := []) ⟨hx, hb, hml, hown, hts⟩ (c_X0_ended l D a hO S (-200005)) (cwV 1 hts gX0_endsAtRow_X0_ended rfl rfl rfl hdX0_ended ⟨Nat.le_of_ble_eq_true rfl, Nat.le_of_ble_eq_true rfl⟩) (xPreV hK hP) rfl rfl hl.1 rfl (lv_room (Nat.le_of_ble_eq_true rfl)) dX0_endsAtRow_30 ⟨Nat.zero_le _, Nat.zero_le _⟩) hS (fun q _ h => h) (fun q h => h) (fun r3 S3 t H1 locs ht hvm hw3 hB hz1 hk1 hS => ?_)
      obtain ⟨hP, -⟩ := hB
      rw [ht] at hP
      have hone4 := xe_ended hw3
      subst hone4
      exact W.zret (v := 1) hx hb hr rfl (fun t ht hW => ⟨⟨1, S3, rfl, (by simp only [xF_endsAtRow, if_neg c1, if_pos c2, hw3]), by rw [ht]; exact hP, va_K.moved hW.alike hK⟩, hS.F ht⟩) hS.2.2 dX0_endsAtRow_33
    · refine lv_iload_n hx hb dX0_endsAtRow_19 rfl (lv_at hl 1 rfl) ?_
      refine lv_aload_n hx hb dX0_endsAtRow_20 rfl (lv_at hl 0 rfl) ?_
      refine x_get hx hb hts hu hown hK hP 4 (by decide) hf21 rfl (v := .int (xRc S)) rfl dX0_endsAtRow_21 ?_
      refine lv_icmp_lt (tgt := 34) hx hb dX0_endsAtRow_24 (by decide) (fun c5 => ?_) (fun c5 => ?_)
      · refine lv_iconst (v := 0) hx hb dX0_endsAtRow_34 (by decide) ?_
        exact W.zret (v := 0) hx hb hr rfl (fun t ht hW => ⟨⟨0, S, rfl, (by simp only [xF_endsAtRow, if_neg c1, if_neg c2, if_pos c5]), by rw [ht]; exact hP, va_K.moved hW.alike hK⟩, hS.F ht⟩) hS.2.2 dX0_endsAtRow_35
      · refine lv_aload_n hx hb dX0_endsAtRow_27 rfl (lv_at hl 0 rfl) ?_
        refine lv_ldc (v := (-200005)) hx hb hown hk116 dX0_endsAtRow_28 ?_
        refine va_calli (va_runV (As := [.int (-200005)]) (rest := []) ⟨hx, hb, hml, hown, hts⟩ (c_X0_ended l D a hO S (-200005)) (cwV 1 hts gX0_endsAtRow_X0_ended rfl rfl rfl hdX0_ended ⟨Nat.le_of_ble_eq_true rfl, Nat.le_of_ble_eq_true rfl⟩) (xPreV hK hP) rfl rfl hl.1 rfl (lv_room (Nat.le_of_ble_eq_true rfl)) dX0_endsAtRow_30 ⟨Nat.zero_le _, Nat.zero_le _⟩) hS (fun q _ h => h) (fun q h => h) (fun r6 S6 t H1 locs ht hvm hw6 hB hz1 hk1 hS => ?_)
        obtain ⟨hP, -⟩ := hB
        rw [ht] at hP
        have hone7 := xe_ended hw6
        subst hone7
        exact W.zret (v := 1) hx hb hr rfl (fun t ht hW => ⟨⟨1, S6, rfl, (by simp only [xF_endsAtRow, if_neg c1, if_neg c2, if_neg c5, hw6]), by rw [ht]; exact hP, va_K.moved hW.alike hK⟩, hS.F ht⟩) hS.2.2 dX0_endsAtRow_33
  · refine lv_aload_n hx hb dX0_endsAtRow_8 rfl (lv_at hl 0 rfl) ?_
    refine lv_ldc (v := (-100005)) hx hb hown hk115 dX0_endsAtRow_9 ?_
    refine va_calli (va_runV (As := [.int (-100005)]) (rest := []) ⟨hx, hb, hml, hown, hts⟩ (c_X0_ended l D a hO S (-100005)) (cwV 1 hts gX0_endsAtRow_X0_ended rfl rfl rfl hdX0_ended ⟨Nat.le_of_ble_eq_true rfl, Nat.le_of_ble_eq_true rfl⟩) (xPreV hK hP) rfl rfl hl.1 rfl (lv_room (Nat.le_of_ble_eq_true rfl)) dX0_endsAtRow_11 ⟨Nat.zero_le _, Nat.zero_le _⟩) hS (fun q _ h => h) (fun q h => h) (fun r8 S8 t H1 locs ht hvm hw8 hB hz1 hk1 hS => ?_)
    obtain ⟨hP, -⟩ := hB
    rw [ht] at hP
    have hone9 := xe_ended hw8
    subst hone9
    exact W.zret (v := 1) hx hb hr rfl (fun t ht hW => ⟨⟨1, S8, rfl, (by simp only [xF_endsAtRow, if_pos c1, hw8]), by rw [ht]; exact hP, va_K.moved hW.alike hK⟩, hS.F ht⟩) hS.2.2 dX0_endsAtRow_14
theorem xe_endsAtRow {S S1 : XS} {i r : Int32} (hI : xI S) (h : xF_endsAtRow S i = (r, S1)) (c : r = 0) : vp_in i 24 ∧ S = S1 := by
  simp only [xF_endsAtRow] at h
  by_cases h1 : xRc S = -1
  · rw [if_pos h1] at h; exact absurd ((Prod.mk.inj h).1.trans c) (by simp [xF_ended])
  · rw [if_neg h1] at h
    by_cases h2 : i < 0
    · rw [if_pos h2] at h; exact absurd ((Prod.mk.inj h).1.trans c) (by simp [xF_ended])
    · rw [if_neg h2] at h
      by_cases h3 : i < xRc S
      · rw [if_pos h3] at h; exact ⟨in_of hI.2.2.1.2 h2 h3, (Prod.mk.inj h).2⟩
      · rw [if_neg h3] at h; exact absurd ((Prod.mk.inj h).1.trans c) (by simp [xF_ended])
def xF_endsAtPlace (S : XS) (p1 p2 : Int32) : Int32 × XS := (let q1 := xF_endsAtRow S p1; (if q1.1 = 0 then (if p2 < 0 then (let q6 := xF_ended q1.2 (-200006); (q6.1, q6.2)) else (if p2 < (xCc q1.2) then (0, q1.2) else (let q9 := xF_ended q1.2 (-200006); (q9.1, q9.2)))) else (1, q1.2)))
theorem hdX0_endsAtPlace : yX0_endsAtPlace.cls = RX0 ∧ yX0_endsAtPlace.cls ≠ "java/lang/invoke/MethodHandle" ∧ yX0_endsAtPlace.cls ≠ "java/lang/invoke/VarHandle" ∧ (parseMethodDescriptor yX0_endsAtPlace.desc).map (fun d => d.parameters.length) = some 2 := by decide +kernel
set_option maxHeartbeats 4000000 in
set_option maxRecDepth 100000 in
theorem c_X0_endsAtPlace (l : Launch) (D : va_G) (a : XA) (hO : xOk a) (S : XS) (p1 p2 : Int32) (hI : xI S) : Met l yX0_endsAtPlace wsX0_endsAtPlace ({ frames := 2, cells := 0, slots := 0, locals := 42 }) (va_Pc [.ref (xa a), .int p1, .int p2] (xB D a S)) (xQi D a (xF_endsAtPlace S p1 p2)) 0 0 (xA a) := by
  refine Met.ofW (cc := cX0_endsAtPlace) (maxL := 3) (ret := (some .boolean)) (by decide) rfl ?_
  intro p e s m args below meth c s₁ B hml hv
  obtain ⟨rfl, hP, hK⟩ := hv
  have hx := B.exec
  have hb := B.bytes
  have hr := B.returns
  have hts := atoms_spec (ws := wsX0_endsAtPlace) B.pre
  have hown : s.vm.findClass RX0 = some m.cls := findClass_of_methodNamed B.named
  have hlocks := B.notSynchronized
  have hS : va_S (xA a) s.heap s.heap [] := va_S.rf
  have hP : va_P D vwCl (xW a S) s.heap := hP
  have hu : ∀ w ∈ wsX00, w ∈ wsX0_endsAtPlace := fun _ h => List.mem_cons_of_mem _ (List.mem_append_right _ h)
  have hk117 := hts (.constant RX0 117 (-200006)) (by decide +kernel)
  have hf25 := hts (.fieldLink RX0 25 "FlightBooks" "columnCount" "I") (by decide +kernel)
  have hl := lv_entry ([.ref (xa a), .int p1, .int p2]) (n := 3) (Nat.le_of_ble_eq_true rfl)
  rw [lg_entry_eq]
  generalize (lg_sl ([.ref (xa a), .int p1, .int p2]) ++ List.replicate (3 - (lg_sl ([.ref (xa a), .int p1, .int p2])).length) Slot.unset).toArray = ls at hl ⊢
  have hl : lv_has ls 3 [(0, .ref (xa a)), (1, .int p1), (2, .int p2)] := hl
  refine lv_aload_n hx hb dX0_endsAtPlace_0 rfl (lv_at hl 0 rfl) ?_
  refine lv_iload_n hx hb dX0_endsAtPlace_1 rfl (lv_at hl 1 rfl) ?_
  refine va_calli (va_runV (As := [.int p1]) (rest := []) ⟨hx, hb, hml, hown, hts⟩ (c_X0_endsAtRow l D a hO S p1) (cwV 1 hts gX0_endsAtPlace_X0_endsAtRow rfl rfl rfl hdX0_endsAtRow ⟨Nat.le_of_ble_eq_true rfl, Nat.le_of_ble_eq_true rfl⟩) (xPreV hK hP) rfl rfl hl.1 rfl (lv_room (Nat.le_of_ble_eq_true rfl)) dX0_endsAtPlace_2 ⟨Nat.zero_le _, Nat.zero_le _⟩) hS (fun q _ h => h) (fun q h => h) (fun r1 S1 t H1 locs ht hvm hw1 hB hz1 hk1 hS => ?_)
  obtain ⟨hP, -⟩ := hB
  rw [ht] at hP
  refine lv_if_eq (tgt := 10) hx hb dX0_endsAtPlace_5 (by decide) (fun c3 => ?_) (fun c3 => ?_)
  · obtain ⟨hn4, hs4⟩ := xe_endsAtRow hI hw1 c3
    subst hs4
    refine lv_iload_n hx hb dX0_endsAtPlace_10 rfl (lv_at hl 2 rfl) ?_
    refine lv_if_lt (tgt := 22) hx hb dX0_endsAtPlace_11 (by decide) (fun c5 => ?_) (fun c5 => ?_)
    · refine lv_aload_n hx hb dX0_endsAtPlace_22 rfl (lv_at hl 0 rfl) ?_
      refine lv_ldc (v := (-200006)) hx hb hown hk117 dX0_endsAtPlace_23 ?_
      refine va_calli (va_runV (As := [.int (-200006)]) (rest := []) ⟨hx, hb, hml, hown, hts⟩ (c_X0_ended l D a hO S (-200006)) (cwV 1 hts gX0_endsAtPlace_X0_ended rfl rfl rfl hdX0_ended ⟨Nat.le_of_ble_eq_true rfl, Nat.le_of_ble_eq_true rfl⟩) (xPreV hK hP) rfl rfl hl.1 rfl (lv_room (Nat.le_of_ble_eq_true rfl)) dX0_endsAtPlace_25 ⟨Nat.zero_le _, Nat.zero_le _⟩) hS (fun q _ h => h) (fun q h => h) (fun r6 S6 t H1 locs ht hvm hw6 hB hz1 hk1 hS => ?_)
      obtain ⟨hP, -⟩ := hB
      rw [ht] at hP
      have hone7 := xe_ended hw6
      subst hone7
      exact W.zret (v := 1) hx hb hr rfl (fun t ht hW => ⟨⟨1, S6, rfl, (by simp only [xF_endsAtPlace, hw1, if_pos c3, if_pos c5, hw6]), by rw [ht]; exact hP, va_K.moved hW.alike hK⟩, hS.F ht⟩) hS.2.2 dX0_endsAtPlace_28
    · refine lv_iload_n hx hb dX0_endsAtPlace_14 rfl (lv_at hl 2 rfl) ?_
      refine lv_aload_n hx hb dX0_endsAtPlace_15 rfl (lv_at hl 0 rfl) ?_
      refine x_get hx hb hts hu hown hK hP 5 (by decide) hf25 rfl (v := .int (xCc S)) rfl dX0_endsAtPlace_16 ?_
      refine lv_icmp_lt (tgt := 29) hx hb dX0_endsAtPlace_19 (by decide) (fun c8 => ?_) (fun c8 => ?_)
      · refine lv_iconst (v := 0) hx hb dX0_endsAtPlace_29 (by decide) ?_
        exact W.zret (v := 0) hx hb hr rfl (fun t ht hW => ⟨⟨0, S, rfl, (by simp only [xF_endsAtPlace, hw1, if_pos c3, if_neg c5, if_pos c8]), by rw [ht]; exact hP, va_K.moved hW.alike hK⟩, hS.F ht⟩) hS.2.2 dX0_endsAtPlace_30
      · refine lv_aload_n hx hb dX0_endsAtPlace_22 rfl (lv_at hl 0 rfl) ?_
        refine lv_ldc (v := (-200006)) hx hb hown hk117 dX0_endsAtPlace_23 ?_
        refine va_calli (va_runV (As := [.int (-200006)]) (rest := []) ⟨hx, hb, hml, hown, hts⟩ (c_X0_ended l D a hO S (-200006)) (cwV 1 hts gX0_endsAtPlace_X0_ended rfl rfl rfl hdX0_ended ⟨Nat.le_of_ble_eq_true rfl, Nat.le_of_ble_eq_true rfl⟩) (xPreV hK hP) rfl rfl hl.1 rfl (lv_room (Nat.le_of_ble_eq_true rfl)) dX0_endsAtPlace_25 ⟨Nat.zero_le _, Nat.zero_le _⟩) hS (fun q _ h => h) (fun q h => h) (fun r9 S9 t H1 locs ht hvm hw9 hB hz1 hk1 hS => ?_)
        obtain ⟨hP, -⟩ := hB
        rw [ht] at hP
        have hone10 := xe_ended hw9
        subst hone10
        exact W.zret (v := 1) hx hb hr rfl (fun t ht hW => ⟨⟨1, S9, rfl, (by simp only [xF_endsAtPlace, hw1, if_pos c3, if_neg c5, if_neg c8, hw9]), by rw [ht]; exact hP, va_K.moved hW.alike hK⟩, hS.F ht⟩) hS.2.2 dX0_endsAtPlace_28
  · refine lv_iconst (v := 1) hx hb dX0_endsAtPlace_8 (by decide) ?_
    exact W.zret (v := 1) hx hb hr rfl (fun t ht hW => ⟨⟨1, S1, rfl, (by simp only [xF_endsAtPlace, hw1, if_neg c3]), by rw [ht]; exact hP, va_K.moved hW.alike hK⟩, hS.F ht⟩) hS.2.2 dX0_endsAtPlace_9
theorem xe_endsAtPlace {S S1 : XS} {i j r : Int32} (hI : xI S) (h : xF_endsAtPlace S i j = (r, S1)) (c : r = 0) : vp_in i 24 ∧ vp_in j 24 ∧ S = S1 := by
  cases hq : xF_endsAtRow S i with
  | mk r2 S2 =>
    simp only [xF_endsAtPlace, hq] at h
    by_cases h1 : r2 = 0
    · obtain ⟨hi, e⟩ := xe_endsAtRow hI hq h1
      subst e
      rw [if_pos h1] at h
      by_cases h2 : j < 0
      · rw [if_pos h2] at h; exact absurd ((Prod.mk.inj h).1.trans c) (by simp [xF_ended])
      · rw [if_neg h2] at h
        by_cases h3 : j < xCc S
        · rw [if_pos h3] at h; exact ⟨hi, in_of hI.2.2.2.2 h2 h3, (Prod.mk.inj h).2⟩
        · rw [if_neg h3] at h; exact absurd ((Prod.mk.inj h).1.trans c) (by simp [xF_ended])
    · rw [if_neg h1] at h; exact absurd ((Prod.mk.inj h).1.trans c) (by decide)
def xF_put (S : XS) (p1 p2 p3 : Int32) : XS := (xsh S p1 p2 (xF_cut p1 p3))
theorem hdX0_put : yX0_put.cls = RX0 ∧ yX0_put.cls ≠ "java/lang/invoke/MethodHandle" ∧ yX0_put.cls ≠ "java/lang/invoke/VarHandle" ∧ (parseMethodDescriptor yX0_put.desc).map (fun d => d.parameters.length) = some 3 := by decide +kernel
set_option maxHeartbeats 4000000 in
set_option maxRecDepth 100000 in
theorem c_X0_put (l : Launch) (D : va_G) (a : XA) (hO : xOk a) (S : XS) (p1 p2 p3 : Int32) (h5_0 : vp_in p1 5) (h24_1 : vp_in p2 24) : Met l yX0_put wsX0_put ({ frames := 3, cells := 0, slots := 0, locals := 63 }) (va_Pc [.ref (xa a), .int p1, .int p2, .int p3] (xB D a S)) (xQv D a (xF_put S p1 p2 p3)) 0 0 (xA a) := by
  refine Met.ofW (cc := cX0_put) (maxL := 4) (ret := none) (by decide) rfl ?_
  intro p e s m args below meth c s₁ B hml hv
  obtain ⟨rfl, hP, hK⟩ := hv
  have hx := B.exec
  have hb := B.bytes
  have hr := B.returns
  have hts := atoms_spec (ws := wsX0_put) B.pre
  have hown : s.vm.findClass RX0 = some m.cls := findClass_of_methodNamed B.named
  have hlocks := B.notSynchronized
  have hS : va_S (xA a) s.heap s.heap [] := va_S.rf
  have hP : va_P D vwCl (xW a S) s.heap := hP
  have hu : ∀ w ∈ wsX00, w ∈ wsX0_put := fun _ h => List.mem_cons_of_mem _ (List.mem_append_right _ h)
  have hf15 := hts (.fieldLink RX0 15 "FlightBooks" "held" "[[I") (by decide +kernel)
  have hl := lv_entry ([.ref (xa a), .int p1, .int p2, .int p3]) (n := 4) (Nat.le_of_ble_eq_true rfl)
  rw [lg_entry_eq]
  generalize (lg_sl ([.ref (xa a), .int p1, .int p2, .int p3]) ++ List.replicate (4 - (lg_sl ([.ref (xa a), .int p1, .int p2, .int p3])).length) Slot.unset).toArray = ls at hl ⊢
  have hl : lv_has ls 4 [(0, .ref (xa a)), (1, .int p1), (2, .int p2), (3, .int p3)] := hl
  refine lv_aload_n hx hb dX0_put_0 rfl (lv_at hl 0 rfl) ?_
  refine x_get hx hb hts hu hown hK hP 2 (by decide) hf15 rfl (v := .ref (xah a)) rfl dX0_put_1 ?_
  refine lv_iload_n hx hb dX0_put_4 rfl (lv_at hl 1 rfl) ?_
  refine x_aldh hx hb hK hP h5_0 dX0_put_5 ?_
  refine lv_iload_n hx hb dX0_put_6 rfl (lv_at hl 2 rfl) ?_
  refine lv_iload_n hx hb dX0_put_7 rfl (lv_at hl 1 rfl) ?_
  refine lv_iload_n hx hb dX0_put_8 rfl (lv_at hl 3 rfl) ?_
  refine va_calli (va_runS (As := [.int p1, .int p3]) (rest := [.int p2, .ref (xrh a (Int32.toNatClampNeg p1))]) ⟨hx, hb, hml, hown, hts⟩ (c_X0_cut l p1 p3) (va_cwS 2 hts gX0_put_X0_cut rfl rfl rfl hdX0_cut ⟨Nat.le_of_ble_eq_true rfl, Nat.le_of_ble_eq_true rfl⟩) pPreS rfl rfl hl.1 rfl (lv_room (Nat.le_of_ble_eq_true rfl)) dX0_put_9 ⟨Nat.zero_le _, Nat.zero_le _⟩) hS (fun q _ h => h.elim) (fun q h => h.elim) (fun r1 u1 t H1 locs ht hvm hw1 hB hz1 hk1 hS => ?_)
  have hP := P_kept hP hk1
  refine x_sth hx hb hO hK hP hS h5_0 h24_1 dX0_put_12 (fun H locs hP hS => ?_)
  exact W.vret hx hb hr (fun t ht hW => ⟨⟨(xsh S p1 p2 r1), rfl, (by simp only [xF_put, hw1]), by rw [ht]; exact hP, va_K.moved hW.alike hK⟩, hS.F ht⟩) hS.2.2 dX0_put_13
theorem xI_put {S S1 : XS} {b i v : Int32} (hI : xI S) (h : xF_put S b i v = S1) : xI S1 := by
  subst h
  exact hI
def xF_endsAtArrival (S : XS) (p1 p2 p3 : Int32) : Int32 × XS := (let q1 := xF_endsAtLine S 2 p1; (if q1.1 = 0 then (let q5 := xF_put q1.2 2 p1 p3; (let q7 := xF_endsAtLine q5 0 p1; (if q7.1 = 0 then (let q11 := xF_put q7.2 0 p1 p2; (let q13 := xF_endsAtLine q11 4 p1; (if q13.1 = 0 then (let q17 := xF_put q13.2 4 p1 ((xh q13.2 4 p1) + 1); (0, q17)) else (1, q13.2)))) else (1, q7.2)))) else (1, q1.2)))
theorem hdX0_endsAtArrival : yX0_endsAtArrival.cls = RX0 ∧ yX0_endsAtArrival.cls ≠ "java/lang/invoke/MethodHandle" ∧ yX0_endsAtArrival.cls ≠ "java/lang/invoke/VarHandle" ∧ (parseMethodDescriptor yX0_endsAtArrival.desc).map (fun d => d.parameters.length) = some 3 := by decide +kernel
set_option maxHeartbeats 4000000 in
set_option maxRecDepth 100000 in
theorem c_X0_endsAtArrival (l : Launch) (D : va_G) (a : XA) (hO : xOk a) (S : XS) (p1 p2 p3 : Int32) (hI : xI S) : Met l yX0_endsAtArrival wsX0_endsAtArrival ({ frames := 4, cells := 0, slots := 0, locals := 86 }) (va_Pc [.ref (xa a), .int p1, .int p2, .int p3] (xB D a S)) (xQi D a (xF_endsAtArrival S p1 p2 p3)) 0 0 (xA a) := by
  refine Met.ofW (cc := cX0_endsAtArrival) (maxL := 4) (ret := (some .boolean)) (by decide) rfl ?_
  intro p e s m args below meth c s₁ B hml hv
  obtain ⟨rfl, hP, hK⟩ := hv
  have hx := B.exec
  have hb := B.bytes
  have hr := B.returns
  have hts := atoms_spec (ws := wsX0_endsAtArrival) B.pre
  have hown : s.vm.findClass RX0 = some m.cls := findClass_of_methodNamed B.named
  have hlocks := B.notSynchronized
  have hS : va_S (xA a) s.heap s.heap [] := va_S.rf
  have hP : va_P D vwCl (xW a S) s.heap := hP
  have hu : ∀ w ∈ wsX00, w ∈ wsX0_endsAtArrival := fun _ h => List.mem_cons_of_mem _ (List.mem_append_right _ h)
  have hf15 := hts (.fieldLink RX0 15 "FlightBooks" "held" "[[I") (by decide +kernel)
  have hl := lv_entry ([.ref (xa a), .int p1, .int p2, .int p3]) (n := 4) (Nat.le_of_ble_eq_true rfl)
  rw [lg_entry_eq]
  generalize (lg_sl ([.ref (xa a), .int p1, .int p2, .int p3]) ++ List.replicate (4 - (lg_sl ([.ref (xa a), .int p1, .int p2, .int p3])).length) Slot.unset).toArray = ls at hl ⊢
  have hl : lv_has ls 4 [(0, .ref (xa a)), (1, .int p1), (2, .int p2), (3, .int p3)] := hl
  refine lv_aload_n hx hb dX0_endsAtArrival_0 rfl (lv_at hl 0 rfl) ?_
  refine lv_iconst (v := 2) hx hb dX0_endsAtArrival_1 (by decide) ?_
  refine lv_iload_n hx hb dX0_endsAtArrival_2 rfl (lv_at hl 1 rfl) ?_
  refine va_calli (va_runV (As := [.int 2, .int p1]) (rest := []) ⟨hx, hb, hml, hown, hts⟩ (c_X0_endsAtLine l D a hO S 2 p1 hI vp_k2_5) (cwV 2 hts gX0_endsAtArrival_X0_endsAtLine rfl rfl rfl hdX0_endsAtLine ⟨Nat.le_of_ble_eq_true rfl, Nat.le_of_ble_eq_true rfl⟩) (xPreV hK hP) rfl rfl hl.1 rfl (lv_room (Nat.le_of_ble_eq_true rfl)) dX0_endsAtArrival_3 ⟨Nat.zero_le _, Nat.zero_le _⟩) hS (fun q _ h => h) (fun q h => h) (fun r1 S1 t H1 locs ht hvm hw1 hB hz1 hk1 hS => ?_)
  obtain ⟨hP, -⟩ := hB
  rw [ht] at hP
  refine lv_if_eq (tgt := 11) hx hb dX0_endsAtArrival_6 (by decide) (fun c3 => ?_) (fun c3 => ?_)
  · obtain ⟨hn4, hs4⟩ := xe_endsAtLine hI vp_k2_5 hw1 c3
    subst hs4
    refine lv_aload_n hx hb dX0_endsAtArrival_11 rfl (lv_at hl 0 rfl) ?_
    refine lv_iconst (v := 2) hx hb dX0_endsAtArrival_12 (by decide) ?_
    refine lv_iload_n hx hb dX0_endsAtArrival_13 rfl (lv_at hl 1 rfl) ?_
    refine lv_iload_n hx hb dX0_endsAtArrival_14 rfl (lv_at hl 3 rfl) ?_
    refine va_callv (va_runV (As := [.int 2, .int p1, .int p3]) (rest := []) ⟨hx, hb, hml, hown, hts⟩ (c_X0_put l D a hO S 2 p1 p3 vp_k2_5 hn4) (cwV 3 hts gX0_endsAtArrival_X0_put rfl rfl rfl hdX0_put ⟨Nat.le_of_ble_eq_true rfl, Nat.le_of_ble_eq_true rfl⟩) (xPreV hK hP) rfl rfl hl.1 rfl (lv_room (Nat.le_of_ble_eq_true rfl)) dX0_endsAtArrival_15 ⟨Nat.zero_le _, Nat.zero_le _⟩) hS (fun q _ h => h) (fun q h => h) (fun S5 t H1 locs ht hvm hw5 hB hz1 hk1 hS => ?_)
    obtain ⟨hP, -⟩ := hB
    rw [ht] at hP
    have hI := xI_put hI hw5
    refine lv_aload_n hx hb dX0_endsAtArrival_18 rfl (lv_at hl 0 rfl) ?_
    refine lv_iconst (v := 0) hx hb dX0_endsAtArrival_19 (by decide) ?_
    refine lv_iload_n hx hb dX0_endsAtArrival_20 rfl (lv_at hl 1 rfl) ?_
    refine va_calli (va_runV (As := [.int 0, .int p1]) (rest := []) ⟨hx, hb, hml, hown, hts⟩ (c_X0_endsAtLine l D a hO S5 0 p1 hI vp_k0_5) (cwV 2 hts gX0_endsAtArrival_X0_endsAtLine rfl rfl rfl hdX0_endsAtLine ⟨Nat.le_of_ble_eq_true rfl, Nat.le_of_ble_eq_true rfl⟩) (xPreV hK hP) rfl rfl hl.1 rfl (lv_room (Nat.le_of_ble_eq_true rfl)) dX0_endsAtArrival_21 ⟨Nat.zero_le _, Nat.zero_le _⟩) hS (fun q _ h => h) (fun q h => h) (fun r7 S7 t H1 locs ht hvm hw7 hB hz1 hk1 hS => ?_)
    obtain ⟨hP, -⟩ := hB
    rw [ht] at hP
    refine lv_if_eq (tgt := 29) hx hb dX0_endsAtArrival_24 (by decide) (fun c9 => ?_) (fun c9 => ?_)
    · obtain ⟨hn10, hs10⟩ := xe_endsAtLine hI vp_k0_5 hw7 c9
      subst hs10
      refine lv_aload_n hx hb dX0_endsAtArrival_29 rfl (lv_at hl 0 rfl) ?_
      refine lv_iconst (v := 0) hx hb dX0_endsAtArrival_30 (by decide) ?_
      refine lv_iload_n hx hb dX0_endsAtArrival_31 rfl (lv_at hl 1 rfl) ?_
      refine lv_iload_n hx hb dX0_endsAtArrival_32 rfl (lv_at hl 2 rfl) ?_
      refine va_callv (va_runV (As := [.int 0, .int p1, .int p2]) (rest := []) ⟨hx, hb, hml, hown, hts⟩ (c_X0_put l D a hO S5 0 p1 p2 vp_k0_5 hn10) (cwV 3 hts gX0_endsAtArrival_X0_put rfl rfl rfl hdX0_put ⟨Nat.le_of_ble_eq_true rfl, Nat.le_of_ble_eq_true rfl⟩) (xPreV hK hP) rfl rfl hl.1 rfl (lv_room (Nat.le_of_ble_eq_true rfl)) dX0_endsAtArrival_33 ⟨Nat.zero_le _, Nat.zero_le _⟩) hS (fun q _ h => h) (fun q h => h) (fun S11 t H1 locs ht hvm hw11 hB hz1 hk1 hS => ?_)
      obtain ⟨hP, -⟩ := hB
      rw [ht] at hP
      have hI := xI_put hI hw11
      refine lv_aload_n hx hb dX0_endsAtArrival_36 rfl (lv_at hl 0 rfl) ?_
      refine lv_iconst (v := 4) hx hb dX0_endsAtArrival_37 (by decide) ?_
      refine lv_iload_n hx hb dX0_endsAtArrival_38 rfl (lv_at hl 1 rfl) ?_
      refine va_calli (va_runV (As := [.int 4, .int p1]) (rest := []) ⟨hx, hb, hml, hown, hts⟩ (c_X0_endsAtLine l D a hO S11 4 p1 hI vp_k4_5) (cwV 2 hts gX0_endsAtArrival_X0_endsAtLine rfl rfl rfl hdX0_endsAtLine ⟨Nat.le_of_ble_eq_true rfl, Nat.le_of_ble_eq_true rfl⟩) (xPreV hK hP) rfl rfl hl.1 rfl (lv_room (Nat.le_of_ble_eq_true rfl)) dX0_endsAtArrival_39 ⟨Nat.zero_le _, Nat.zero_le _⟩) hS (fun q _ h => h) (fun q h => h) (fun r13 S13 t H1 locs ht hvm hw13 hB hz1 hk1 hS => ?_)
      obtain ⟨hP, -⟩ := hB
      rw [ht] at hP
      refine lv_if_eq (tgt := 47) hx hb dX0_endsAtArrival_42 (by decide) (fun c15 => ?_) (fun c15 => ?_)
      · obtain ⟨hn16, hs16⟩ := xe_endsAtLine hI vp_k4_5 hw13 c15
        subst hs16
        refine lv_aload_n hx hb dX0_endsAtArrival_47 rfl (lv_at hl 0 rfl) ?_
        refine lv_iconst (v := 4) hx hb dX0_endsAtArrival_48 (by decide) ?_
        refine lv_iload_n hx hb dX0_endsAtArrival_49 rfl (lv_at hl 1 rfl) ?_
        refine lv_aload_n hx hb dX0_endsAtArrival_50 rfl (lv_at hl 0 rfl) ?_
        refine x_get hx hb hts hu hown hK hP 2 (by decide) hf15 rfl (v := .ref (xah a)) rfl dX0_endsAtArrival_51 ?_
        refine lv_iconst (v := 4) hx hb dX0_endsAtArrival_54 (by decide) ?_
        refine x_aldh hx hb hK hP vp_k4_5 dX0_endsAtArrival_55 ?_
        refine lv_iload_n hx hb dX0_endsAtArrival_56 rfl (lv_at hl 1 rfl) ?_
        refine x_ldh hx hb hK hP vp_k4_5 hn16 dX0_endsAtArrival_57 ?_
        refine lv_iconst (v := 1) hx hb dX0_endsAtArrival_58 (by decide) ?_
        refine lv_iadd hx hb dX0_endsAtArrival_59 ?_
        refine va_callv (va_runV (As := [.int 4, .int p1, .int ((xh S11 4 p1) + 1)]) (rest := []) ⟨hx, hb, hml, hown, hts⟩ (c_X0_put l D a hO S11 4 p1 ((xh S11 4 p1) + 1) vp_k4_5 hn16) (cwV 3 hts gX0_endsAtArrival_X0_put rfl rfl rfl hdX0_put ⟨Nat.le_of_ble_eq_true rfl, Nat.le_of_ble_eq_true rfl⟩) (xPreV hK hP) rfl rfl hl.1 rfl (lv_room (Nat.le_of_ble_eq_true rfl)) dX0_endsAtArrival_60 ⟨Nat.zero_le _, Nat.zero_le _⟩) hS (fun q _ h => h) (fun q h => h) (fun S17 t H1 locs ht hvm hw17 hB hz1 hk1 hS => ?_)
        obtain ⟨hP, -⟩ := hB
        rw [ht] at hP
        have hI := xI_put hI hw17
        refine lv_iconst (v := 0) hx hb dX0_endsAtArrival_63 (by decide) ?_
        exact W.zret (v := 0) hx hb hr rfl (fun t ht hW => ⟨⟨0, S17, rfl, (by simp only [xF_endsAtArrival, hw1, if_pos c3, hw5, hw7, if_pos c9, hw11, hw13, if_pos c15, hw17]), by rw [ht]; exact hP, va_K.moved hW.alike hK⟩, hS.F ht⟩) hS.2.2 dX0_endsAtArrival_64
      · refine lv_iconst (v := 1) hx hb dX0_endsAtArrival_45 (by decide) ?_
        exact W.zret (v := 1) hx hb hr rfl (fun t ht hW => ⟨⟨1, S13, rfl, (by simp only [xF_endsAtArrival, hw1, if_pos c3, hw5, hw7, if_pos c9, hw11, hw13, if_neg c15]), by rw [ht]; exact hP, va_K.moved hW.alike hK⟩, hS.F ht⟩) hS.2.2 dX0_endsAtArrival_46
    · refine lv_iconst (v := 1) hx hb dX0_endsAtArrival_27 (by decide) ?_
      exact W.zret (v := 1) hx hb hr rfl (fun t ht hW => ⟨⟨1, S7, rfl, (by simp only [xF_endsAtArrival, hw1, if_pos c3, hw5, hw7, if_neg c9]), by rw [ht]; exact hP, va_K.moved hW.alike hK⟩, hS.F ht⟩) hS.2.2 dX0_endsAtArrival_28
  · refine lv_iconst (v := 1) hx hb dX0_endsAtArrival_9 (by decide) ?_
    exact W.zret (v := 1) hx hb hr rfl (fun t ht hW => ⟨⟨1, S1, rfl, (by simp only [xF_endsAtArrival, hw1, if_neg c3]), by rw [ht]; exact hP, va_K.moved hW.alike hK⟩, hS.F ht⟩) hS.2.2 dX0_endsAtArrival_10
theorem xI_eal {S : XS} (b i : Int32) (hI : xI S) : xI (xF_endsAtLine S b i).2 := by
  have hk : xI (xF_endsAtBook S b).2 := by
    unfold xF_endsAtBook xF_ended
    by_cases h1 : xc S b = -1
    · rw [if_pos h1]; exact hI
    · rw [if_neg h1]; exact hI
  simp only [xF_endsAtLine, xF_ended]
  by_cases h1 : (xF_endsAtBook S b).1 = 0
  · rw [if_pos h1]
    by_cases h2 : i < 0
    · rw [if_pos h2]; exact hk
    · rw [if_neg h2]
      by_cases h3 : i < xc (xF_endsAtBook S b).2 b
      · rw [if_pos h3]; exact hk
      · rw [if_neg h3]; exact hk
  · rw [if_neg h1]; exact hk
theorem xI_pt {S : XS} (b i v : Int32) (hI : xI S) : xI (xF_put S b i v) := hI
theorem xI_endsAtArrival {S S1 : XS} {b i v r : Int32} (hI : xI S) (h : xF_endsAtArrival S b i v = (r, S1)) : xI S1 := by
  have e : S1 = (xF_endsAtArrival S b i v).2 := by rw [h]
  subst e
  simp only [xF_endsAtArrival]
  have h1 := xI_eal 2 b hI
  generalize xF_endsAtLine S 2 b = q1 at h1 ⊢
  by_cases c1 : q1.1 = 0
  · rw [if_pos c1]
    have h2 := xI_pt 2 b v h1
    generalize xF_put q1.2 2 b v = q2 at h2 ⊢
    have h3 := xI_eal 0 b h2
    generalize xF_endsAtLine q2 0 b = q3 at h3 ⊢
    by_cases c3 : q3.1 = 0
    · rw [if_pos c3]
      have h4 := xI_pt 0 b i h3
      generalize xF_put q3.2 0 b i = q4 at h4 ⊢
      have h5 := xI_eal 4 b h4
      generalize xF_endsAtLine q4 4 b = q5 at h5 ⊢
      by_cases c5 : q5.1 = 0
      · rw [if_pos c5]; exact xI_pt _ _ _ h5
      · rw [if_neg c5]; exact h5
    · rw [if_neg c3]; exact h3
  · rw [if_neg c1]; exact h1
