/-! bounds; what stands of the class' state between calls (xI) -/
theorem vp_k0_5 : vp_in 0 5 := by unfold vp_in; decide
theorem vp_k1_5 : vp_in 1 5 := by unfold vp_in; decide
theorem vp_k2_5 : vp_in 2 5 := by unfold vp_in; decide
theorem vp_k3_5 : vp_in 3 5 := by unfold vp_in; decide
theorem vp_k4_5 : vp_in 4 5 := by unfold vp_in; decide
theorem vp_k0_24 : vp_in 0 24 := by unfold vp_in; decide
theorem in_of {i n : Int32} {k : Nat} (hk : n.toInt ≤ (k : Int)) (h0 : ¬ i < 0) (h1 : i < n) : vp_in i k := by
  rw [vp_in_iff]
  rw [Int32.lt_iff_toInt_lt] at h0 h1
  have e : (0 : Int32).toInt = 0 := by decide
  rw [e] at h0
  omega
theorem in_of' {i n : Int32} {k : Nat} (hk : n.toInt ≤ (k : Int)) (h0 : ¬ i < 0) (h1 : ¬ n ≤ i) : vp_in i k := in_of hk h0 (by rw [Int32.lt_iff_toInt_lt]; rw [Int32.le_iff_toInt_le] at h1; omega)
def xI (S : XS) : Prop := (∀ b, b < 5 → (-1 ≤ (xC S b).toInt ∧ (xC S b).toInt ≤ 24)) ∧ (1 ≤ (xN S).toInt ∧ (xN S).toInt ≤ 24) ∧ (-1 ≤ (xRc S).toInt ∧ (xRc S).toInt ≤ 24) ∧ (0 ≤ (xCc S).toInt ∧ (xCc S).toInt ≤ 24)
def xF_isBook (p1 : Int32) : Int32 := (if p1 < 0 then 0 else (if 5 ≤ p1 then 0 else 1))
theorem hdX0_isBook : yX0_isBook.cls ≠ "java/lang/invoke/MethodHandle" ∧ yX0_isBook.cls ≠ "java/lang/invoke/VarHandle" ∧ (parseMethodDescriptor yX0_isBook.desc).map (fun d => d.parameters.length) = some 1 := by decide +kernel
set_option maxHeartbeats 4000000 in
set_option maxRecDepth 100000 in
theorem c_X0_isBook (l : Launch) (p1 : Int32) : Met l yX0_isBook wsX0_isBook ({ frames := 0, cells := 0, slots := 0, locals := 0 }) (va_Pc [.int p1] (fun _ => True)) (pQi (xF_isBook p1)) 0 0 (fun _ => False) := by
  refine Met.ofW (cc := cX0_isBook) (maxL := 1) (ret := (some .boolean)) (by decide) rfl ?_
  intro p e s m args below meth c s₁ B hml hv
  obtain ⟨rfl, -⟩ := hv
  have hx := B.exec
  have hb := B.bytes
  have hr := B.returns
  have hts := atoms_spec (ws := wsX0_isBook) B.pre
  have hown : s.vm.findClass RX0 = some m.cls := findClass_of_methodNamed B.named
  have hlocks := B.notSynchronized
  have hS : va_S (fun _ => False) s.heap s.heap [] := va_S.rf
  have hl := lv_entry ([.int p1]) (n := 1) (Nat.le_of_ble_eq_true rfl)
  rw [lg_entry_eq]
  generalize (lg_sl ([.int p1]) ++ List.replicate (1 - (lg_sl ([.int p1])).length) Slot.unset).toArray = ls at hl ⊢
  have hl : lv_has ls 1 [(0, .int p1)] := hl
  refine lv_iload_n hx hb dX0_isBook_0 rfl (lv_at hl 0 rfl) ?_
  refine lv_if_lt (tgt := 13) hx hb dX0_isBook_1 (by decide) (fun c1 => ?_) (fun c1 => ?_)
  · refine lv_iconst (v := 0) hx hb dX0_isBook_13 (by decide) ?_
    exact W.zret (v := 0) hx hb hr rfl (fun t ht hW => ⟨⟨0, (), rfl, (by simp only [xF_isBook, if_pos c1]), trivial⟩, hS.F ht⟩) hS.2.2 dX0_isBook_14
  · refine lv_iload_n hx hb dX0_isBook_4 rfl (lv_at hl 0 rfl) ?_
    refine lv_iconst (v := 5) hx hb dX0_isBook_5 (by decide) ?_
    refine lv_icmp_ge (tgt := 13) hx hb dX0_isBook_6 (by decide) (fun c2 => ?_) (fun c2 => ?_)
    · refine lv_iconst (v := 0) hx hb dX0_isBook_13 (by decide) ?_
      exact W.zret (v := 0) hx hb hr rfl (fun t ht hW => ⟨⟨0, (), rfl, (by simp only [xF_isBook, if_neg c1, if_pos c2]), trivial⟩, hS.F ht⟩) hS.2.2 dX0_isBook_14
    · refine lv_iconst (v := 1) hx hb dX0_isBook_9 (by decide) ?_
      refine lv_goto (tgt := 14) hx hb dX0_isBook_10 (by decide) ?_
      exact W.zret (v := 1) hx hb hr rfl (fun t ht hW => ⟨⟨1, (), rfl, (by simp only [xF_isBook, if_neg c1, if_neg c2]), trivial⟩, hS.F ht⟩) hS.2.2 dX0_isBook_14
def xF_isToldLoad (p1 : Int32) : Int32 := (if p1 < (-16000) then 0 else (if 16000 < p1 then 0 else 1))
theorem hdX0_isToldLoad : yX0_isToldLoad.cls ≠ "java/lang/invoke/MethodHandle" ∧ yX0_isToldLoad.cls ≠ "java/lang/invoke/VarHandle" ∧ (parseMethodDescriptor yX0_isToldLoad.desc).map (fun d => d.parameters.length) = some 1 := by decide +kernel
set_option maxHeartbeats 4000000 in
set_option maxRecDepth 100000 in
theorem c_X0_isToldLoad (l : Launch) (p1 : Int32) : Met l yX0_isToldLoad wsX0_isToldLoad ({ frames := 0, cells := 0, slots := 0, locals := 0 }) (va_Pc [.int p1] (fun _ => True)) (pQi (xF_isToldLoad p1)) 0 0 (fun _ => False) := by
  refine Met.ofW (cc := cX0_isToldLoad) (maxL := 1) (ret := (some .boolean)) (by decide) rfl ?_
  intro p e s m args below meth c s₁ B hml hv
  obtain ⟨rfl, -⟩ := hv
  have hx := B.exec
  have hb := B.bytes
  have hr := B.returns
  have hts := atoms_spec (ws := wsX0_isToldLoad) B.pre
  have hown : s.vm.findClass RX0 = some m.cls := findClass_of_methodNamed B.named
  have hlocks := B.notSynchronized
  have hS : va_S (fun _ => False) s.heap s.heap [] := va_S.rf
  have hl := lv_entry ([.int p1]) (n := 1) (Nat.le_of_ble_eq_true rfl)
  rw [lg_entry_eq]
  generalize (lg_sl ([.int p1]) ++ List.replicate (1 - (lg_sl ([.int p1])).length) Slot.unset).toArray = ls at hl ⊢
  have hl : lv_has ls 1 [(0, .int p1)] := hl
  refine lv_iload_n hx hb dX0_isToldLoad_0 rfl (lv_at hl 0 rfl) ?_
  refine lv_sipush (v := (-16000)) hx hb dX0_isToldLoad_1 (by decide) ?_
  refine lv_icmp_lt (tgt := 18) hx hb dX0_isToldLoad_4 (by decide) (fun c1 => ?_) (fun c1 => ?_)
  · refine lv_iconst (v := 0) hx hb dX0_isToldLoad_18 (by decide) ?_
    exact W.zret (v := 0) hx hb hr rfl (fun t ht hW => ⟨⟨0, (), rfl, (by simp only [xF_isToldLoad, if_pos c1]), trivial⟩, hS.F ht⟩) hS.2.2 dX0_isToldLoad_19
  · refine lv_iload_n hx hb dX0_isToldLoad_7 rfl (lv_at hl 0 rfl) ?_
    refine lv_sipush (v := 16000) hx hb dX0_isToldLoad_8 (by decide) ?_
    refine lv_icmp_gt (tgt := 18) hx hb dX0_isToldLoad_11 (by decide) (fun c2 => ?_) (fun c2 => ?_)
    · refine lv_iconst (v := 0) hx hb dX0_isToldLoad_18 (by decide) ?_
      exact W.zret (v := 0) hx hb hr rfl (fun t ht hW => ⟨⟨0, (), rfl, (by simp only [xF_isToldLoad, if_neg c1, if_pos c2]), trivial⟩, hS.F ht⟩) hS.2.2 dX0_isToldLoad_19
    · refine lv_iconst (v := 1) hx hb dX0_isToldLoad_14 (by decide) ?_
      refine lv_goto (tgt := 19) hx hb dX0_isToldLoad_15 (by decide) ?_
      exact W.zret (v := 1) hx hb hr rfl (fun t ht hW => ⟨⟨1, (), rfl, (by simp only [xF_isToldLoad, if_neg c1, if_neg c2]), trivial⟩, hS.F ht⟩) hS.2.2 dX0_isToldLoad_19
def xF_nearest (p1 p2 p3 : Int32) : Int32 := (if p2 < (if p1 < p3 then p1 else p3) then (if p1 < p3 then p1 else p3) else p2)
theorem hdX0_nearest : yX0_nearest.cls ≠ "java/lang/invoke/MethodHandle" ∧ yX0_nearest.cls ≠ "java/lang/invoke/VarHandle" ∧ (parseMethodDescriptor yX0_nearest.desc).map (fun d => d.parameters.length) = some 3 := by decide +kernel
set_option maxHeartbeats 4000000 in
set_option maxRecDepth 100000 in
theorem c_X0_nearest (l : Launch) (p1 p2 p3 : Int32) : Met l yX0_nearest wsX0_nearest ({ frames := 1, cells := 0, slots := 0, locals := 20 }) (va_Pc [.int p1, .int p2, .int p3] (fun _ => True)) (pQi (xF_nearest p1 p2 p3)) 0 0 (fun _ => False) := by
  refine Met.ofW (cc := cX0_nearest) (maxL := 3) (ret := (some .int)) (by decide) rfl ?_
  intro p e s m args below meth c s₁ B hml hv
  obtain ⟨rfl, -⟩ := hv
  have hx := B.exec
  have hb := B.bytes
  have hr := B.returns
  have hts := atoms_spec (ws := wsX0_nearest) B.pre
  have hown : s.vm.findClass RX0 = some m.cls := findClass_of_methodNamed B.named
  have hlocks := B.notSynchronized
  have hS : va_S (fun _ => False) s.heap s.heap [] := va_S.rf
  have hml121 := hts (.methodLink RX0 121 Lib.Math.min.name) (by decide +kernel)
  have hms_min := hts (.static Lib.Math.min.name) (by decide +kernel)
  have hmi := hts (.initialized "java/lang/Math") (by decide +kernel)
  have hmc_min := hts (.code Lib.Math.min.name Lib.Math.min.code 2 (some .int)) (by decide +kernel)
  have hml126 := hts (.methodLink RX0 126 Lib.Math.max.name) (by decide +kernel)
  have hms_max := hts (.static Lib.Math.max.name) (by decide +kernel)
  have hmc_max := hts (.code Lib.Math.max.name Lib.Math.max.code 2 (some .int)) (by decide +kernel)
  have hl := lv_entry ([.int p1, .int p2, .int p3]) (n := 3) (Nat.le_of_ble_eq_true rfl)
  rw [lg_entry_eq]
  generalize (lg_sl ([.int p1, .int p2, .int p3]) ++ List.replicate (3 - (lg_sl ([.int p1, .int p2, .int p3])).length) Slot.unset).toArray = ls at hl ⊢
  have hl : lv_has ls 3 [(0, .int p1), (1, .int p2), (2, .int p3)] := hl
  refine lv_iload_n hx hb dX0_nearest_0 rfl (lv_at hl 1 rfl) ?_
  refine lv_iload_n hx hb dX0_nearest_1 rfl (lv_at hl 2 rfl) ?_
  refine lv_iload_n hx hb dX0_nearest_2 rfl (lv_at hl 0 rfl) ?_
  refine va_mmin hx hb (hml.trans hl.1.symm) hown hml121 hms_min hmi hmc_min (Nat.le_of_ble_eq_true rfl) (Nat.le_of_ble_eq_true rfl) (Nat.zero_le _) (Nat.zero_le _) dX0_nearest_3 ?_
  refine va_mmax hx hb (hml.trans hl.1.symm) hown hml126 hms_max hmi hmc_max (Nat.le_of_ble_eq_true rfl) (Nat.le_of_ble_eq_true rfl) (Nat.zero_le _) (Nat.zero_le _) dX0_nearest_6 ?_
  exact W.iret (v := (if p2 < (if p1 < p3 then p1 else p3) then (if p1 < p3 then p1 else p3) else p2)) hx hb hr (fun t ht hW => ⟨⟨(if p2 < (if p1 < p3 then p1 else p3) then (if p1 < p3 then p1 else p3) else p2), (), rfl, rfl, trivial⟩, hS.F ht⟩) hS.2.2 dX0_nearest_9
def xF_changedGate (p1 p2 p3 : Int32) : Int32 := (if p2 = 0 then (p1 ||| p3) else (if p2 = 1 then (p1 &&& p3) else (if p2 = 2 then (p1 ^^^ 1) else (p1 ^^^ p3))))
theorem hdX0_changedGate : yX0_changedGate.cls ≠ "java/lang/invoke/MethodHandle" ∧ yX0_changedGate.cls ≠ "java/lang/invoke/VarHandle" ∧ (parseMethodDescriptor yX0_changedGate.desc).map (fun d => d.parameters.length) = some 3 := by decide +kernel
set_option maxHeartbeats 4000000 in
set_option maxRecDepth 100000 in
theorem c_X0_changedGate (l : Launch) (p1 p2 p3 : Int32) : Met l yX0_changedGate wsX0_changedGate ({ frames := 0, cells := 0, slots := 0, locals := 0 }) (va_Pc [.int p1, .int p2, .int p3] (fun _ => True)) (pQi (xF_changedGate p1 p2 p3)) 0 0 (fun _ => False) := by
  refine Met.ofW (cc := cX0_changedGate) (maxL := 3) (ret := (some .int)) (by decide) rfl ?_
  intro p e s m args below meth c s₁ B hml hv
  obtain ⟨rfl, -⟩ := hv
  have hx := B.exec
  have hb := B.bytes
  have hr := B.returns
  have hts := atoms_spec (ws := wsX0_changedGate) B.pre
  have hown : s.vm.findClass RX0 = some m.cls := findClass_of_methodNamed B.named
  have hlocks := B.notSynchronized
  have hS : va_S (fun _ => False) s.heap s.heap [] := va_S.rf
  have hl := lv_entry ([.int p1, .int p2, .int p3]) (n := 3) (Nat.le_of_ble_eq_true rfl)
  rw [lg_entry_eq]
  generalize (lg_sl ([.int p1, .int p2, .int p3]) ++ List.replicate (3 - (lg_sl ([.int p1, .int p2, .int p3])).length) Slot.unset).toArray = ls at hl ⊢
  have hl : lv_has ls 3 [(0, .int p1), (1, .int p2), (2, .int p3)] := hl
  refine lv_iload_n hx hb dX0_changedGate_0 rfl (lv_at hl 1 rfl) ?_
  by_cases c1 : p2 = 0
  · refine lv_tableIn (tgt := 28) hx hb dX0_changedGate_1 (by rw [c1]; decide) (by rw [c1]; decide) (by rw [c1]; rfl) (by decide) ?_
    refine lv_iload_n hx hb dX0_changedGate_28 rfl (lv_at hl 0 rfl) ?_
    refine lv_iload_n hx hb dX0_changedGate_29 rfl (lv_at hl 2 rfl) ?_
    refine lv_ior hx hb dX0_changedGate_30 ?_
    exact W.iret (v := (p1 ||| p3)) hx hb hr (fun t ht hW => ⟨⟨(p1 ||| p3), (), rfl, (by simp only [xF_changedGate, if_pos c1]), trivial⟩, hS.F ht⟩) hS.2.2 dX0_changedGate_31
  · skip
    by_cases c2 : p2 = 1
    · refine lv_tableIn (tgt := 32) hx hb dX0_changedGate_1 (by rw [c2]; decide) (by rw [c2]; decide) (by rw [c2]; rfl) (by decide) ?_
      refine lv_iload_n hx hb dX0_changedGate_32 rfl (lv_at hl 0 rfl) ?_
      refine lv_iload_n hx hb dX0_changedGate_33 rfl (lv_at hl 2 rfl) ?_
      refine lv_iand hx hb dX0_changedGate_34 ?_
      exact W.iret (v := (p1 &&& p3)) hx hb hr (fun t ht hW => ⟨⟨(p1 &&& p3), (), rfl, (by simp only [xF_changedGate, if_pos c2, if_neg c1]), trivial⟩, hS.F ht⟩) hS.2.2 dX0_changedGate_35
    · skip
      by_cases c3 : p2 = 2
      · refine lv_tableIn (tgt := 36) hx hb dX0_changedGate_1 (by rw [c3]; decide) (by rw [c3]; decide) (by rw [c3]; rfl) (by decide) ?_
        refine lv_iload_n hx hb dX0_changedGate_36 rfl (lv_at hl 0 rfl) ?_
        refine lv_iconst (v := 1) hx hb dX0_changedGate_37 (by decide) ?_
        refine lv_ixor hx hb dX0_changedGate_38 ?_
        exact W.iret (v := (p1 ^^^ 1)) hx hb hr (fun t ht hW => ⟨⟨(p1 ^^^ 1), (), rfl, (by simp only [xF_changedGate, if_pos c3, if_neg c1, if_neg c2]), trivial⟩, hS.F ht⟩) hS.2.2 dX0_changedGate_39
      · skip
        have nc1 := lv_neT c1 (a := 0) (by decide)
        have nc2 := lv_neT c2 (a := 1) (by decide)
        have nc3 := lv_neT c3 (a := 2) (by decide)
        refine lv_tableOut (tgt := 40) hx hb dX0_changedGate_1 (by omega) (by decide) ?_
        refine lv_iload_n hx hb dX0_changedGate_40 rfl (lv_at hl 0 rfl) ?_
        refine lv_iload_n hx hb dX0_changedGate_41 rfl (lv_at hl 2 rfl) ?_
        refine lv_ixor hx hb dX0_changedGate_42 ?_
        exact W.iret (v := (p1 ^^^ p3)) hx hb hr (fun t ht hW => ⟨⟨(p1 ^^^ p3), (), rfl, (by simp only [xF_changedGate, if_neg c1, if_neg c2, if_neg c3]), trivial⟩, hS.F ht⟩) hS.2.2 dX0_changedGate_43
def xF_cut (p1 p2 : Int32) : Int32 := (if p1 = 0 then (p2 &&& 65535) else (if p1 = 1 then (p2.toInt16.toInt32) else (if p1 = 2 then (xF_nearest p2 (-2000000) 2000000) else (if p1 = 3 then (p2 &&& 1) else (p2.toInt8.toInt32)))))
theorem hdX0_cut : yX0_cut.cls ≠ "java/lang/invoke/MethodHandle" ∧ yX0_cut.cls ≠ "java/lang/invoke/VarHandle" ∧ (parseMethodDescriptor yX0_cut.desc).map (fun d => d.parameters.length) = some 2 := by decide +kernel
set_option maxHeartbeats 4000000 in
set_option maxRecDepth 100000 in
theorem c_X0_cut (l : Launch) (p1 p2 : Int32) : Met l yX0_cut wsX0_cut ({ frames := 2, cells := 0, slots := 0, locals := 42 }) (va_Pc [.int p1, .int p2] (fun _ => True)) (pQi (xF_cut p1 p2)) 0 0 (fun _ => False) := by
  refine Met.ofW (cc := cX0_cut) (maxL := 2) (ret := (some .int)) (by decide) rfl ?_
  intro p e s m args below meth c s₁ B hml hv
  obtain ⟨rfl, -⟩ := hv
  have hx := B.exec
  have hb := B.bytes
  have hr := B.returns
  have hts := atoms_spec (ws := wsX0_cut) B.pre
  have hown : s.vm.findClass RX0 = some m.cls := findClass_of_methodNamed B.named
  have hlocks := B.notSynchronized
  have hS : va_S (fun _ => False) s.heap s.heap [] := va_S.rf
  have hk118 := hts (.constant RX0 118 (65535)) (by decide +kernel)
  have hk119 := hts (.constant RX0 119 (-2000000)) (by decide +kernel)
  have hk120 := hts (.constant RX0 120 (2000000)) (by decide +kernel)
  have hl := lv_entry ([.int p1, .int p2]) (n := 2) (Nat.le_of_ble_eq_true rfl)
  rw [lg_entry_eq]
  generalize (lg_sl ([.int p1, .int p2]) ++ List.replicate (2 - (lg_sl ([.int p1, .int p2])).length) Slot.unset).toArray = ls at hl ⊢
  have hl : lv_has ls 2 [(0, .int p1), (1, .int p2)] := hl
  refine lv_iload_n hx hb dX0_cut_0 rfl (lv_at hl 0 rfl) ?_
  by_cases c1 : p1 = 0
  · refine lv_tableIn (tgt := 32) hx hb dX0_cut_1 (by rw [c1]; decide) (by rw [c1]; decide) (by rw [c1]; rfl) (by decide) ?_
    refine lv_iload_n hx hb dX0_cut_32 rfl (lv_at hl 1 rfl) ?_
    refine lv_ldc (v := 65535) hx hb hown hk118 dX0_cut_33 ?_
    refine lv_iand hx hb dX0_cut_35 ?_
    exact W.iret (v := (p2 &&& 65535)) hx hb hr (fun t ht hW => ⟨⟨(p2 &&& 65535), (), rfl, (by simp only [xF_cut, if_pos c1]), trivial⟩, hS.F ht⟩) hS.2.2 dX0_cut_36
  · skip
    by_cases c2 : p1 = 1
    · refine lv_tableIn (tgt := 37) hx hb dX0_cut_1 (by rw [c2]; decide) (by rw [c2]; decide) (by rw [c2]; rfl) (by decide) ?_
      refine lv_iload_n hx hb dX0_cut_37 rfl (lv_at hl 1 rfl) ?_
      refine lv_i2s hx hb dX0_cut_38 rfl ?_
      exact W.iret (v := (p2.toInt16.toInt32)) hx hb hr (fun t ht hW => ⟨⟨(p2.toInt16.toInt32), (), rfl, (by simp only [xF_cut, if_pos c2, if_neg c1]), trivial⟩, hS.F ht⟩) hS.2.2 dX0_cut_39
    · skip
      by_cases c3 : p1 = 2
      · refine lv_tableIn (tgt := 40) hx hb dX0_cut_1 (by rw [c3]; decide) (by rw [c3]; decide) (by rw [c3]; rfl) (by decide) ?_
        refine lv_iload_n hx hb dX0_cut_40 rfl (lv_at hl 1 rfl) ?_
        refine lv_ldc (v := (-2000000)) hx hb hown hk119 dX0_cut_41 ?_
        refine lv_ldc (v := 2000000) hx hb hown hk120 dX0_cut_43 ?_
        refine va_calli (va_runS (As := [.int p2, .int (-2000000), .int 2000000]) (rest := []) ⟨hx, hb, hml, hown, hts⟩ (c_X0_nearest l p2 (-2000000) 2000000) (va_cwS 3 hts gX0_cut_X0_nearest rfl rfl rfl hdX0_nearest ⟨Nat.le_of_ble_eq_true rfl, Nat.le_of_ble_eq_true rfl⟩) pPreS rfl rfl hl.1 rfl (lv_room (Nat.le_of_ble_eq_true rfl)) dX0_cut_45 ⟨Nat.zero_le _, Nat.zero_le _⟩) hS (fun q _ h => h.elim) (fun q h => h.elim) (fun r4 u4 t H1 locs ht hvm hw4 hB hz1 hk1 hS => ?_)
        exact W.iret (v := r4) hx hb hr (fun t ht hW => ⟨⟨r4, (), rfl, (by simp only [xF_cut, if_pos c3, if_neg c1, if_neg c2, hw4]), trivial⟩, hS.F ht⟩) hS.2.2 dX0_cut_48
      · skip
        by_cases c5 : p1 = 3
        · refine lv_tableIn (tgt := 49) hx hb dX0_cut_1 (by rw [c5]; decide) (by rw [c5]; decide) (by rw [c5]; rfl) (by decide) ?_
          refine lv_iload_n hx hb dX0_cut_49 rfl (lv_at hl 1 rfl) ?_
          refine lv_iconst (v := 1) hx hb dX0_cut_50 (by decide) ?_
          refine lv_iand hx hb dX0_cut_51 ?_
          exact W.iret (v := (p2 &&& 1)) hx hb hr (fun t ht hW => ⟨⟨(p2 &&& 1), (), rfl, (by simp only [xF_cut, if_pos c5, if_neg c1, if_neg c2, if_neg c3]), trivial⟩, hS.F ht⟩) hS.2.2 dX0_cut_52
        · skip
          have nc1 := lv_neT c1 (a := 0) (by decide)
          have nc2 := lv_neT c2 (a := 1) (by decide)
          have nc3 := lv_neT c3 (a := 2) (by decide)
          have nc5 := lv_neT c5 (a := 3) (by decide)
          refine lv_tableOut (tgt := 53) hx hb dX0_cut_1 (by omega) (by decide) ?_
          refine lv_iload_n hx hb dX0_cut_53 rfl (lv_at hl 1 rfl) ?_
          refine lv_i2b hx hb dX0_cut_54 rfl ?_
          exact W.iret (v := (p2.toInt8.toInt32)) hx hb hr (fun t ht hW => ⟨⟨(p2.toInt8.toInt32), (), rfl, (by simp only [xF_cut, if_neg c1, if_neg c2, if_neg c3, if_neg c5]), trivial⟩, hS.F ht⟩) hS.2.2 dX0_cut_55
def xF_told (p1 p2 : Int32) : Int32 := (if p1 = 2 then (xF_nearest p2 (-16000) 16000) else p2)
theorem hdX0_told : yX0_told.cls ≠ "java/lang/invoke/MethodHandle" ∧ yX0_told.cls ≠ "java/lang/invoke/VarHandle" ∧ (parseMethodDescriptor yX0_told.desc).map (fun d => d.parameters.length) = some 2 := by decide +kernel
set_option maxHeartbeats 4000000 in
set_option maxRecDepth 100000 in
theorem c_X0_told (l : Launch) (p1 p2 : Int32) : Met l yX0_told wsX0_told ({ frames := 2, cells := 0, slots := 0, locals := 42 }) (va_Pc [.int p1, .int p2] (fun _ => True)) (pQi (xF_told p1 p2)) 0 0 (fun _ => False) := by
  refine Met.ofW (cc := cX0_told) (maxL := 2) (ret := (some .int)) (by decide) rfl ?_
  intro p e s m args below meth c s₁ B hml hv
  obtain ⟨rfl, -⟩ := hv
  have hx := B.exec
  have hb := B.bytes
  have hr := B.returns
  have hts := atoms_spec (ws := wsX0_told) B.pre
  have hown : s.vm.findClass RX0 = some m.cls := findClass_of_methodNamed B.named
  have hlocks := B.notSynchronized
  have hS : va_S (fun _ => False) s.heap s.heap [] := va_S.rf
  have hl := lv_entry ([.int p1, .int p2]) (n := 2) (Nat.le_of_ble_eq_true rfl)
  rw [lg_entry_eq]
  generalize (lg_sl ([.int p1, .int p2]) ++ List.replicate (2 - (lg_sl ([.int p1, .int p2])).length) Slot.unset).toArray = ls at hl ⊢
  have hl : lv_has ls 2 [(0, .int p1), (1, .int p2)] := hl
  refine lv_iload_n hx hb dX0_told_0 rfl (lv_at hl 0 rfl) ?_
  refine lv_iconst (v := 2) hx hb dX0_told_1 (by decide) ?_
  refine lv_icmp_ne (tgt := 18) hx hb dX0_told_2 (by decide) (fun c1 => ?_) (fun c1 => ?_)
  · refine lv_iload_n hx hb dX0_told_18 rfl (lv_at hl 1 rfl) ?_
    exact W.iret (v := p2) hx hb hr (fun t ht hW => ⟨⟨p2, (), rfl, (by simp only [xF_told, if_neg c1]), trivial⟩, hS.F ht⟩) hS.2.2 dX0_told_19
  · refine lv_iload_n hx hb dX0_told_5 rfl (lv_at hl 1 rfl) ?_
    refine lv_sipush (v := (-16000)) hx hb dX0_told_6 (by decide) ?_
    refine lv_sipush (v := 16000) hx hb dX0_told_9 (by decide) ?_
    refine va_calli (va_runS (As := [.int p2, .int (-16000), .int 16000]) (rest := []) ⟨hx, hb, hml, hown, hts⟩ (c_X0_nearest l p2 (-16000) 16000) (va_cwS 3 hts gX0_told_X0_nearest rfl rfl rfl hdX0_nearest ⟨Nat.le_of_ble_eq_true rfl, Nat.le_of_ble_eq_true rfl⟩) pPreS rfl rfl hl.1 rfl (lv_room (Nat.le_of_ble_eq_true rfl)) dX0_told_12 ⟨Nat.zero_le _, Nat.zero_le _⟩) hS (fun q _ h => h.elim) (fun q h => h.elim) (fun r2 u2 t H1 locs ht hvm hw2 hB hz1 hk1 hS => ?_)
    refine lv_goto (tgt := 19) hx hb dX0_told_15 (by decide) ?_
    exact W.iret (v := r2) hx hb hr (fun t ht hW => ⟨⟨r2, (), rfl, (by simp only [xF_told, if_pos c1, hw2]), trivial⟩, hS.F ht⟩) hS.2.2 dX0_told_19
def xF_changed (p1 p2 p3 p4 : Int32) : Int32 := (if p1 = 3 then (xF_changedGate p2 p3 p4) else (if p1 = 2 then (if p3 = 0 then (p2 + p4) else (if p3 = 1 then (p2 - p4) else (if p3 = 2 then (p2 + 8) else (p2 - 8)))) else (if p3 = 0 then (p2 + p4) else (if p3 = 1 then (p2 - p4) else (if p3 = 2 then (p2 + 1) else (p2 - 1))))))
theorem hdX0_changed : yX0_changed.cls ≠ "java/lang/invoke/MethodHandle" ∧ yX0_changed.cls ≠ "java/lang/invoke/VarHandle" ∧ (parseMethodDescriptor yX0_changed.desc).map (fun d => d.parameters.length) = some 4 := by decide +kernel
set_option maxHeartbeats 4000000 in
set_option maxRecDepth 100000 in
theorem c_X0_changed (l : Launch) (p1 p2 p3 p4 : Int32) : Met l yX0_changed wsX0_changed ({ frames := 1, cells := 0, slots := 0, locals := 22 }) (va_Pc [.int p1, .int p2, .int p3, .int p4] (fun _ => True)) (pQi (xF_changed p1 p2 p3 p4)) 0 0 (fun _ => False) := by
  refine Met.ofW (cc := cX0_changed) (maxL := 5) (ret := (some .int)) (by decide) rfl ?_
  intro p e s m args below meth c s₁ B hml hv
  obtain ⟨rfl, -⟩ := hv
  have hx := B.exec
  have hb := B.bytes
  have hr := B.returns
  have hts := atoms_spec (ws := wsX0_changed) B.pre
  have hown : s.vm.findClass RX0 = some m.cls := findClass_of_methodNamed B.named
  have hlocks := B.notSynchronized
  have hS : va_S (fun _ => False) s.heap s.heap [] := va_S.rf
  have hl := lv_entry ([.int p1, .int p2, .int p3, .int p4]) (n := 5) (Nat.le_of_ble_eq_true rfl)
  rw [lg_entry_eq]
  generalize (lg_sl ([.int p1, .int p2, .int p3, .int p4]) ++ List.replicate (5 - (lg_sl ([.int p1, .int p2, .int p3, .int p4])).length) Slot.unset).toArray = ls at hl ⊢
  have hl : lv_has ls 5 [(0, .int p1), (1, .int p2), (2, .int p3), (3, .int p4)] := hl
  refine lv_iload_n hx hb dX0_changed_0 rfl (lv_at hl 0 rfl) ?_
  refine lv_iconst (v := 3) hx hb dX0_changed_1 (by decide) ?_
  refine lv_icmp_ne (tgt := 12) hx hb dX0_changed_2 (by decide) (fun c1 => ?_) (fun c1 => ?_)
  · refine lv_iload_n hx hb dX0_changed_12 rfl (lv_at hl 0 rfl) ?_
    refine lv_iconst (v := 2) hx hb dX0_changed_13 (by decide) ?_
    refine lv_icmp_ne (tgt := 22) hx hb dX0_changed_14 (by decide) (fun c2 => ?_) (fun c2 => ?_)
    · refine lv_iconst (v := 1) hx hb dX0_changed_22 (by decide) ?_
      refine lv_istore (lv' := [(4, .int 1), (0, .int p1), (1, .int p2), (2, .int p3), (3, .int p4)]) hx hb dX0_changed_23 hl (by decide) rfl (fun ls hl => ?_)
      refine lv_iload_n hx hb dX0_changed_25 rfl (lv_at hl 3 rfl) ?_
      by_cases c3 : p3 = 0
      · refine lv_tableIn (tgt := 52) hx hb dX0_changed_26 (by rw [c3]; decide) (by rw [c3]; decide) (by rw [c3]; rfl) (by decide) ?_
        refine lv_iload_n hx hb dX0_changed_52 rfl (lv_at hl 2 rfl) ?_
        refine lv_iload_n hx hb dX0_changed_53 rfl (lv_at hl 4 rfl) ?_
        refine lv_iadd hx hb dX0_changed_54 ?_
        exact W.iret (v := (p2 + p4)) hx hb hr (fun t ht hW => ⟨⟨(p2 + p4), (), rfl, (by simp only [xF_changed, if_neg c1, if_neg c2, if_pos c3]), trivial⟩, hS.F ht⟩) hS.2.2 dX0_changed_55
      · skip
        by_cases c4 : p3 = 1
        · refine lv_tableIn (tgt := 56) hx hb dX0_changed_26 (by rw [c4]; decide) (by rw [c4]; decide) (by rw [c4]; rfl) (by decide) ?_
          refine lv_iload_n hx hb dX0_changed_56 rfl (lv_at hl 2 rfl) ?_
          refine lv_iload_n hx hb dX0_changed_57 rfl (lv_at hl 4 rfl) ?_
          refine lv_isub hx hb dX0_changed_58 ?_
          exact W.iret (v := (p2 - p4)) hx hb hr (fun t ht hW => ⟨⟨(p2 - p4), (), rfl, (by simp only [xF_changed, if_neg c1, if_neg c2, if_pos c4, if_neg c3]), trivial⟩, hS.F ht⟩) hS.2.2 dX0_changed_59
        · skip
          by_cases c5 : p3 = 2
          · refine lv_tableIn (tgt := 60) hx hb dX0_changed_26 (by rw [c5]; decide) (by rw [c5]; decide) (by rw [c5]; rfl) (by decide) ?_
            refine lv_iload_n hx hb dX0_changed_60 rfl (lv_at hl 2 rfl) ?_
            refine lv_iload hx hb dX0_changed_61 (lv_at hl 0 rfl) ?_
            refine lv_iadd hx hb dX0_changed_63 ?_
            exact W.iret (v := (p2 + 1)) hx hb hr (fun t ht hW => ⟨⟨(p2 + 1), (), rfl, (by simp only [xF_changed, if_neg c1, if_neg c2, if_pos c5, if_neg c3, if_neg c4]), trivial⟩, hS.F ht⟩) hS.2.2 dX0_changed_64
          · skip
            have nc3 := lv_neT c3 (a := 0) (by decide)
            have nc4 := lv_neT c4 (a := 1) (by decide)
            have nc5 := lv_neT c5 (a := 2) (by decide)
            refine lv_tableOut (tgt := 65) hx hb dX0_changed_26 (by omega) (by decide) ?_
            refine lv_iload_n hx hb dX0_changed_65 rfl (lv_at hl 2 rfl) ?_
            refine lv_iload hx hb dX0_changed_66 (lv_at hl 0 rfl) ?_
            refine lv_isub hx hb dX0_changed_68 ?_
            exact W.iret (v := (p2 - 1)) hx hb hr (fun t ht hW => ⟨⟨(p2 - 1), (), rfl, (by simp only [xF_changed, if_neg c1, if_neg c2, if_neg c3, if_neg c4, if_neg c5]), trivial⟩, hS.F ht⟩) hS.2.2 dX0_changed_69
    · refine lv_bipush (v := 8) hx hb dX0_changed_17 (by decide) ?_
      refine lv_goto (tgt := 23) hx hb dX0_changed_19 (by decide) ?_
      refine lv_istore (lv' := [(4, .int 8), (0, .int p1), (1, .int p2), (2, .int p3), (3, .int p4)]) hx hb dX0_changed_23 hl (by decide) rfl (fun ls hl => ?_)
      refine lv_iload_n hx hb dX0_changed_25 rfl (lv_at hl 3 rfl) ?_
      by_cases c6 : p3 = 0
      · refine lv_tableIn (tgt := 52) hx hb dX0_changed_26 (by rw [c6]; decide) (by rw [c6]; decide) (by rw [c6]; rfl) (by decide) ?_
        refine lv_iload_n hx hb dX0_changed_52 rfl (lv_at hl 2 rfl) ?_
        refine lv_iload_n hx hb dX0_changed_53 rfl (lv_at hl 4 rfl) ?_
        refine lv_iadd hx hb dX0_changed_54 ?_
        exact W.iret (v := (p2 + p4)) hx hb hr (fun t ht hW => ⟨⟨(p2 + p4), (), rfl, (by simp only [xF_changed, if_neg c1, if_pos c2, if_pos c6]), trivial⟩, hS.F ht⟩) hS.2.2 dX0_changed_55
      · skip
        by_cases c7 : p3 = 1
        · refine lv_tableIn (tgt := 56) hx hb dX0_changed_26 (by rw [c7]; decide) (by rw [c7]; decide) (by rw [c7]; rfl) (by decide) ?_
          refine lv_iload_n hx hb dX0_changed_56 rfl (lv_at hl 2 rfl) ?_
          refine lv_iload_n hx hb dX0_changed_57 rfl (lv_at hl 4 rfl) ?_
          refine lv_isub hx hb dX0_changed_58 ?_
          exact W.iret (v := (p2 - p4)) hx hb hr (fun t ht hW => ⟨⟨(p2 - p4), (), rfl, (by simp only [xF_changed, if_neg c1, if_pos c2, if_pos c7, if_neg c6]), trivial⟩, hS.F ht⟩) hS.2.2 dX0_changed_59
        · skip
          by_cases c8 : p3 = 2
          · refine lv_tableIn (tgt := 60) hx hb dX0_changed_26 (by rw [c8]; decide) (by rw [c8]; decide) (by rw [c8]; rfl) (by decide) ?_
            refine lv_iload_n hx hb dX0_changed_60 rfl (lv_at hl 2 rfl) ?_
            refine lv_iload hx hb dX0_changed_61 (lv_at hl 0 rfl) ?_
            refine lv_iadd hx hb dX0_changed_63 ?_
            exact W.iret (v := (p2 + 8)) hx hb hr (fun t ht hW => ⟨⟨(p2 + 8), (), rfl, (by simp only [xF_changed, if_neg c1, if_pos c2, if_pos c8, if_neg c6, if_neg c7]), trivial⟩, hS.F ht⟩) hS.2.2 dX0_changed_64
          · skip
            have nc6 := lv_neT c6 (a := 0) (by decide)
            have nc7 := lv_neT c7 (a := 1) (by decide)
            have nc8 := lv_neT c8 (a := 2) (by decide)
            refine lv_tableOut (tgt := 65) hx hb dX0_changed_26 (by omega) (by decide) ?_
            refine lv_iload_n hx hb dX0_changed_65 rfl (lv_at hl 2 rfl) ?_
            refine lv_iload hx hb dX0_changed_66 (lv_at hl 0 rfl) ?_
            refine lv_isub hx hb dX0_changed_68 ?_
            exact W.iret (v := (p2 - 8)) hx hb hr (fun t ht hW => ⟨⟨(p2 - 8), (), rfl, (by simp only [xF_changed, if_neg c1, if_pos c2, if_neg c6, if_neg c7, if_neg c8]), trivial⟩, hS.F ht⟩) hS.2.2 dX0_changed_69
  · refine lv_iload_n hx hb dX0_changed_5 rfl (lv_at hl 1 rfl) ?_
    refine lv_iload_n hx hb dX0_changed_6 rfl (lv_at hl 2 rfl) ?_
    refine lv_iload_n hx hb dX0_changed_7 rfl (lv_at hl 3 rfl) ?_
    refine va_calli (va_runS (As := [.int p2, .int p3, .int p4]) (rest := []) ⟨hx, hb, hml, hown, hts⟩ (c_X0_changedGate l p2 p3 p4) (va_cwS 3 hts gX0_changed_X0_changedGate rfl rfl rfl hdX0_changedGate ⟨Nat.le_of_ble_eq_true rfl, Nat.le_of_ble_eq_true rfl⟩) pPreS rfl rfl hl.1 rfl (lv_room (Nat.le_of_ble_eq_true rfl)) dX0_changed_8 ⟨Nat.zero_le _, Nat.zero_le _⟩) hS (fun q _ h => h.elim) (fun q h => h.elim) (fun r9 u9 t H1 locs ht hvm hw9 hB hz1 hk1 hS => ?_)
    exact W.iret (v := r9) hx hb hr (fun t ht hW => ⟨⟨r9, (), rfl, (by simp only [xF_changed, if_pos c1, hw9]), trivial⟩, hS.F ht⟩) hS.2.2 dX0_changed_11
def xF_isChamber (S : XS) (p1 : Int32) : Int32 := (if p1 < 0 then 0 else (if (xN S) ≤ p1 then 0 else 1))
theorem hdX0_isChamber : yX0_isChamber.cls = RX0 ∧ yX0_isChamber.cls ≠ "java/lang/invoke/MethodHandle" ∧ yX0_isChamber.cls ≠ "java/lang/invoke/VarHandle" ∧ (parseMethodDescriptor yX0_isChamber.desc).map (fun d => d.parameters.length) = some 1 := by decide +kernel
set_option maxHeartbeats 4000000 in
set_option maxRecDepth 100000 in
theorem c_X0_isChamber (l : Launch) (D : va_G) (a : XA) (hO : xOk a) (S : XS) (p1 : Int32) : Met l yX0_isChamber wsX0_isChamber ({ frames := 0, cells := 0, slots := 0, locals := 0 }) (va_Pc [.ref (xa a), .int p1] (xB D a S)) (va_Qi (fun (r : Int32) (u : XS) => xF_isChamber S p1 = r ∧ u = S) (xB D a) (xA a)) 0 0 (xA a) := by
  refine Met.ofW (cc := cX0_isChamber) (maxL := 2) (ret := (some .boolean)) (by decide) rfl ?_
  intro p e s m args below meth c s₁ B hml hv
  obtain ⟨rfl, hP, hK⟩ := hv
  have hx := B.exec
  have hb := B.bytes
  have hr := B.returns
  have hts := atoms_spec (ws := wsX0_isChamber) B.pre
  have hown : s.vm.findClass RX0 = some m.cls := findClass_of_methodNamed B.named
  have hlocks := B.notSynchronized
  have hS : va_S (xA a) s.heap s.heap [] := va_S.rf
  have hP : va_P D vwCl (xW a S) s.heap := hP
  have hu : ∀ w ∈ wsX00, w ∈ wsX0_isChamber := fun _ h => List.mem_cons_of_mem _ (List.mem_append_right _ h)
  have hf44 := hts (.fieldLink RX0 44 "FlightBooks" "chamberCount" "I") (by decide +kernel)
  have hl := lv_entry ([.ref (xa a), .int p1]) (n := 2) (Nat.le_of_ble_eq_true rfl)
  rw [lg_entry_eq]
  generalize (lg_sl ([.ref (xa a), .int p1]) ++ List.replicate (2 - (lg_sl ([.ref (xa a), .int p1])).length) Slot.unset).toArray = ls at hl ⊢
  have hl : lv_has ls 2 [(0, .ref (xa a)), (1, .int p1)] := hl
  refine lv_iload_n hx hb dX0_isChamber_0 rfl (lv_at hl 1 rfl) ?_
  refine lv_if_lt (tgt := 16) hx hb dX0_isChamber_1 (by decide) (fun c1 => ?_) (fun c1 => ?_)
  · refine lv_iconst (v := 0) hx hb dX0_isChamber_16 (by decide) ?_
    exact W.zret (v := 0) hx hb hr rfl (fun t ht hW => ⟨⟨0, S, rfl, ⟨(by simp only [xF_isChamber, if_pos c1]), rfl⟩, by rw [ht]; exact hP, va_K.moved hW.alike hK⟩, hS.F ht⟩) hS.2.2 dX0_isChamber_17
  · refine lv_iload_n hx hb dX0_isChamber_4 rfl (lv_at hl 1 rfl) ?_
    refine lv_aload_n hx hb dX0_isChamber_5 rfl (lv_at hl 0 rfl) ?_
    refine x_get hx hb hts hu hown hK hP 0 (by decide) hf44 rfl (v := .int (xN S)) rfl dX0_isChamber_6 ?_
    refine lv_icmp_ge (tgt := 16) hx hb dX0_isChamber_9 (by decide) (fun c2 => ?_) (fun c2 => ?_)
    · refine lv_iconst (v := 0) hx hb dX0_isChamber_16 (by decide) ?_
      exact W.zret (v := 0) hx hb hr rfl (fun t ht hW => ⟨⟨0, S, rfl, ⟨(by simp only [xF_isChamber, if_neg c1, if_pos c2]), rfl⟩, by rw [ht]; exact hP, va_K.moved hW.alike hK⟩, hS.F ht⟩) hS.2.2 dX0_isChamber_17
    · refine lv_iconst (v := 1) hx hb dX0_isChamber_12 (by decide) ?_
      refine lv_goto (tgt := 17) hx hb dX0_isChamber_13 (by decide) ?_
      exact W.zret (v := 1) hx hb hr rfl (fun t ht hW => ⟨⟨1, S, rfl, ⟨(by simp only [xF_isChamber, if_neg c1, if_neg c2]), rfl⟩, by rw [ht]; exact hP, va_K.moved hW.alike hK⟩, hS.F ht⟩) hS.2.2 dX0_isChamber_17
def xF_isLast (S : XS) (p1 : Int32) : Int32 := (if p1 = ((xN S) - 1) then 1 else 0)
theorem hdX0_isLast : yX0_isLast.cls = RX0 ∧ yX0_isLast.cls ≠ "java/lang/invoke/MethodHandle" ∧ yX0_isLast.cls ≠ "java/lang/invoke/VarHandle" ∧ (parseMethodDescriptor yX0_isLast.desc).map (fun d => d.parameters.length) = some 1 := by decide +kernel
set_option maxHeartbeats 4000000 in
set_option maxRecDepth 100000 in
theorem c_X0_isLast (l : Launch) (D : va_G) (a : XA) (hO : xOk a) (S : XS) (p1 : Int32) : Met l yX0_isLast wsX0_isLast ({ frames := 0, cells := 0, slots := 0, locals := 0 }) (va_Pc [.ref (xa a), .int p1] (xB D a S)) (va_Qi (fun (r : Int32) (u : XS) => xF_isLast S p1 = r ∧ u = S) (xB D a) (xA a)) 0 0 (xA a) := by
  refine Met.ofW (cc := cX0_isLast) (maxL := 2) (ret := (some .boolean)) (by decide) rfl ?_
  intro p e s m args below meth c s₁ B hml hv
  obtain ⟨rfl, hP, hK⟩ := hv
  have hx := B.exec
  have hb := B.bytes
  have hr := B.returns
  have hts := atoms_spec (ws := wsX0_isLast) B.pre
  have hown : s.vm.findClass RX0 = some m.cls := findClass_of_methodNamed B.named
  have hlocks := B.notSynchronized
  have hS : va_S (xA a) s.heap s.heap [] := va_S.rf
  have hP : va_P D vwCl (xW a S) s.heap := hP
  have hu : ∀ w ∈ wsX00, w ∈ wsX0_isLast := fun _ h => List.mem_cons_of_mem _ (List.mem_append_right _ h)
  have hf44 := hts (.fieldLink RX0 44 "FlightBooks" "chamberCount" "I") (by decide +kernel)
  have hl := lv_entry ([.ref (xa a), .int p1]) (n := 2) (Nat.le_of_ble_eq_true rfl)
  rw [lg_entry_eq]
  generalize (lg_sl ([.ref (xa a), .int p1]) ++ List.replicate (2 - (lg_sl ([.ref (xa a), .int p1])).length) Slot.unset).toArray = ls at hl ⊢
  have hl : lv_has ls 2 [(0, .ref (xa a)), (1, .int p1)] := hl
  refine lv_iload_n hx hb dX0_isLast_0 rfl (lv_at hl 1 rfl) ?_
  refine lv_aload_n hx hb dX0_isLast_1 rfl (lv_at hl 0 rfl) ?_
  refine x_get hx hb hts hu hown hK hP 0 (by decide) hf44 rfl (v := .int (xN S)) rfl dX0_isLast_2 ?_
  refine lv_iconst (v := 1) hx hb dX0_isLast_5 (by decide) ?_
  refine lv_isub hx hb dX0_isLast_6 ?_
  refine lv_icmp_ne (tgt := 14) hx hb dX0_isLast_7 (by decide) (fun c1 => ?_) (fun c1 => ?_)
  · refine lv_iconst (v := 0) hx hb dX0_isLast_14 (by decide) ?_
    exact W.zret (v := 0) hx hb hr rfl (fun t ht hW => ⟨⟨0, S, rfl, ⟨(by simp only [xF_isLast, if_neg c1]), rfl⟩, by rw [ht]; exact hP, va_K.moved hW.alike hK⟩, hS.F ht⟩) hS.2.2 dX0_isLast_15
  · refine lv_iconst (v := 1) hx hb dX0_isLast_10 (by decide) ?_
    refine lv_goto (tgt := 15) hx hb dX0_isLast_11 (by decide) ?_
    exact W.zret (v := 1) hx hb hr rfl (fun t ht hW => ⟨⟨1, S, rfl, ⟨(by simp only [xF_isLast, if_pos c1]), rfl⟩, by rw [ht]; exact hP, va_K.moved hW.alike hK⟩, hS.F ht⟩) hS.2.2 dX0_isLast_15
def xF_ended (S : XS) (p1 : Int32) : Int32 × XS := (1, (xsLf (xsFc S ((xFc S) + 1)) p1))
theorem hdX0_ended : yX0_ended.cls = RX0 ∧ yX0_ended.cls ≠ "java/lang/invoke/MethodHandle" ∧ yX0_ended.cls ≠ "java/lang/invoke/VarHandle" ∧ (parseMethodDescriptor yX0_ended.desc).map (fun d => d.parameters.length) = some 1 := by decide +kernel
set_option maxHeartbeats 4000000 in
set_option maxRecDepth 100000 in
theorem c_X0_ended (l : Launch) (D : va_G) (a : XA) (hO : xOk a) (S : XS) (p1 : Int32) : Met l yX0_ended wsX0_ended ({ frames := 0, cells := 0, slots := 0, locals := 0 }) (va_Pc [.ref (xa a), .int p1] (xB D a S)) (xQi D a (xF_ended S p1)) 0 0 (xA a) := by
  refine Met.ofW (cc := cX0_ended) (maxL := 2) (ret := (some .boolean)) (by decide) rfl ?_
  intro p e s m args below meth c s₁ B hml hv
  obtain ⟨rfl, hP, hK⟩ := hv
  have hx := B.exec
  have hb := B.bytes
  have hr := B.returns
  have hts := atoms_spec (ws := wsX0_ended) B.pre
  have hown : s.vm.findClass RX0 = some m.cls := findClass_of_methodNamed B.named
  have hlocks := B.notSynchronized
  have hS : va_S (xA a) s.heap s.heap [] := va_S.rf
  have hP : va_P D vwCl (xW a S) s.heap := hP
  have hu : ∀ w ∈ wsX00, w ∈ wsX0_ended := fun _ h => List.mem_cons_of_mem _ (List.mem_append_right _ h)
  have hf34 := hts (.fieldLink RX0 34 "FlightBooks" "faultCount" "I") (by decide +kernel)
  have hf37 := hts (.fieldLink RX0 37 "FlightBooks" "latestFault" "I") (by decide +kernel)
  have hl := lv_entry ([.ref (xa a), .int p1]) (n := 2) (Nat.le_of_ble_eq_true rfl)
  rw [lg_entry_eq]
  generalize (lg_sl ([.ref (xa a), .int p1]) ++ List.replicate (2 - (lg_sl ([.ref (xa a), .int p1])).length) Slot.unset).toArray = ls at hl ⊢
  have hl : lv_has ls 2 [(0, .ref (xa a)), (1, .int p1)] := hl
  refine lv_aload_n hx hb dX0_ended_0 rfl (lv_at hl 0 rfl) ?_
  refine lv_dup hx hb dX0_ended_1 rfl ?_
  refine x_get hx hb hts hu hown hK hP 8 (by decide) hf34 rfl (v := .int (xFc S)) rfl dX0_ended_2 ?_
  refine lv_iconst (v := 1) hx hb dX0_ended_5 (by decide) ?_
  refine lv_iadd hx hb dX0_ended_6 ?_
  refine x_put hx hb hts hu hown hO hK hP hS 8 (by decide) hf34 rfl rfl (by decide +kernel) (xsFc S ((xFc S) + 1)) rfl rfl dX0_ended_7 (fun H locs hP hS => ?_)
  refine lv_aload_n hx hb dX0_ended_10 rfl (lv_at hl 0 rfl) ?_
  refine lv_iload_n hx hb dX0_ended_11 rfl (lv_at hl 1 rfl) ?_
  refine x_put hx hb hts hu hown hO hK hP hS 9 (by decide) hf37 rfl rfl (by decide +kernel) (xsLf (xsFc S ((xFc S) + 1)) p1) rfl rfl dX0_ended_12 (fun H locs hP hS => ?_)
  refine lv_iconst (v := 1) hx hb dX0_ended_15 (by decide) ?_
  exact W.zret (v := 1) hx hb hr rfl (fun t ht hW => ⟨⟨1, (xsLf (xsFc S ((xFc S) + 1)) p1), rfl, rfl, by rw [ht]; exact hP, va_K.moved hW.alike hK⟩, hS.F ht⟩) hS.2.2 dX0_ended_16
theorem xe_book {b r : Int32} (h : xF_isBook b = r) (c : ¬ r = 0) : vp_in b 5 := by
  unfold xF_isBook at h
  by_cases h1 : b < 0
  · rw [if_pos h1] at h; exact absurd h.symm c
  · rw [if_neg h1] at h
    by_cases h2 : (5 : Int32) ≤ b
    · rw [if_pos h2] at h; exact absurd h.symm c
    · exact in_of' (by decide) h1 h2
theorem xe_cham {S : XS} {b r : Int32} (hI : xI S) (h : xF_isChamber S b = r) (c : ¬ r = 0) : vp_in b 24 := by
  unfold xF_isChamber at h
  by_cases h1 : b < 0
  · rw [if_pos h1] at h; exact absurd h.symm c
  · rw [if_neg h1] at h
    by_cases h2 : xN S ≤ b
    · rw [if_pos h2] at h; exact absurd h.symm c
    · exact in_of' (by have := hI.2.1.2; omega) h1 h2
theorem xe_ended {S S1 : XS} {f r : Int32} (h : xF_ended S f = (r, S1)) : 1 = r := (Prod.mk.inj h).1
