/-! the reference's methods -/
def mI (S : MS) : Prop := (∀ b, b < 5 → (-1 ≤ (mC S b).toInt ∧ (mC S b).toInt ≤ 24)) ∧ (1 ≤ (mN S).toInt ∧ (mN S).toInt ≤ 24) ∧ (0 ≤ (mRw S).toInt ∧ (mRw S).toInt ≤ 24) ∧ (0 ≤ (mAc S).toInt ∧ (mAc S).toInt ≤ 24)
theorem me_ix {b i : Int32} (h5 : vp_in b 5) (hi : vp_in i 24) : vp_in ((24 * b) + i) 120 := by
  obtain ⟨j, hj, rfl⟩ := vp_in_of h5 (by decide)
  obtain ⟨k, hk, rfl⟩ := vp_in_of hi (by decide)
  rw [show (24 : Int32) = nI 24 by decide, pk_mul, nI_add]
  exact vp_in_nI (by omega) (by decide)
theorem me_ixp {b i : Int32} (h5 : vp_in b 24) (hi : vp_in i 24) : vp_in ((24 * b) + i) 576 := by
  obtain ⟨j, hj, rfl⟩ := vp_in_of h5 (by decide)
  obtain ⟨k, hk, rfl⟩ := vp_in_of hi (by decide)
  rw [show (24 : Int32) = nI 24 by decide, pk_mul, nI_add]
  exact vp_in_nI (by omega) (by decide)
def mF_isBook (p1 : Int32) : Int32 := (if p1 < 0 then 0 else (if 5 ≤ p1 then 0 else 1))
theorem hdX1_isBook : yX1_isBook.cls ≠ "java/lang/invoke/MethodHandle" ∧ yX1_isBook.cls ≠ "java/lang/invoke/VarHandle" ∧ (parseMethodDescriptor yX1_isBook.desc).map (fun d => d.parameters.length) = some 1 := by decide +kernel
set_option maxHeartbeats 4000000 in
set_option maxRecDepth 100000 in
theorem c_X1_isBook (l : Launch) (p1 : Int32) : Met l yX1_isBook wsX1_isBook ({ frames := 0, cells := 0, slots := 0, locals := 0 }) (va_Pc [.int p1] (fun _ => True)) (pQi (mF_isBook p1)) 0 0 (fun _ => False) := by
  refine Met.ofW (cc := cX1_isBook) (maxL := 1) (ret := (some .boolean)) (by decide) rfl ?_
  intro p e s m args below meth c s₁ B hml hv
  obtain ⟨rfl, -⟩ := hv
  have hx := B.exec
  have hb := B.bytes
  have hr := B.returns
  have hts := atoms_spec (ws := wsX1_isBook) B.pre
  have hown : s.vm.findClass RX1 = some m.cls := findClass_of_methodNamed B.named
  have hlocks := B.notSynchronized
  have hS : va_S (fun _ => False) s.heap s.heap [] := va_S.rf
  have hl := lv_entry ([.int p1]) (n := 1) (Nat.le_of_ble_eq_true rfl)
  rw [lg_entry_eq]
  generalize (lg_sl ([.int p1]) ++ List.replicate (1 - (lg_sl ([.int p1])).length) Slot.unset).toArray = ls at hl ⊢
  have hl : lv_has ls 1 [(0, .int p1)] := hl
  refine lv_iload_n hx hb dX1_isBook_0 rfl (lv_at hl 0 rfl) ?_
  refine lv_if_lt (tgt := 13) hx hb dX1_isBook_1 (by decide) (fun c1 => ?_) (fun c1 => ?_)
  · refine lv_iconst (v := 0) hx hb dX1_isBook_13 (by decide) ?_
    exact W.zret (v := 0) hx hb hr rfl (fun t ht hW => ⟨⟨0, (), rfl, (by simp only [mF_isBook, if_pos c1]), trivial⟩, hS.F ht⟩) hS.2.2 dX1_isBook_14
  · refine lv_iload_n hx hb dX1_isBook_4 rfl (lv_at hl 0 rfl) ?_
    refine lv_iconst (v := 5) hx hb dX1_isBook_5 (by decide) ?_
    refine lv_icmp_ge (tgt := 13) hx hb dX1_isBook_6 (by decide) (fun c2 => ?_) (fun c2 => ?_)
    · refine lv_iconst (v := 0) hx hb dX1_isBook_13 (by decide) ?_
      exact W.zret (v := 0) hx hb hr rfl (fun t ht hW => ⟨⟨0, (), rfl, (by simp only [mF_isBook, if_neg c1, if_pos c2]), trivial⟩, hS.F ht⟩) hS.2.2 dX1_isBook_14
    · refine lv_iconst (v := 1) hx hb dX1_isBook_9 (by decide) ?_
      refine lv_goto (tgt := 14) hx hb dX1_isBook_10 (by decide) ?_
      exact W.zret (v := 1) hx hb hr rfl (fun t ht hW => ⟨⟨1, (), rfl, (by simp only [mF_isBook, if_neg c1, if_neg c2]), trivial⟩, hS.F ht⟩) hS.2.2 dX1_isBook_14
def mF_isLoad (p1 : Int32) : Int32 := (if p1 < (-16000) then 0 else (if 16000 < p1 then 0 else 1))
theorem hdX1_isLoad : yX1_isLoad.cls ≠ "java/lang/invoke/MethodHandle" ∧ yX1_isLoad.cls ≠ "java/lang/invoke/VarHandle" ∧ (parseMethodDescriptor yX1_isLoad.desc).map (fun d => d.parameters.length) = some 1 := by decide +kernel
set_option maxHeartbeats 4000000 in
set_option maxRecDepth 100000 in
theorem c_X1_isLoad (l : Launch) (p1 : Int32) : Met l yX1_isLoad wsX1_isLoad ({ frames := 0, cells := 0, slots := 0, locals := 0 }) (va_Pc [.int p1] (fun _ => True)) (pQi (mF_isLoad p1)) 0 0 (fun _ => False) := by
  refine Met.ofW (cc := cX1_isLoad) (maxL := 1) (ret := (some .boolean)) (by decide) rfl ?_
  intro p e s m args below meth c s₁ B hml hv
  obtain ⟨rfl, -⟩ := hv
  have hx := B.exec
  have hb := B.bytes
  have hr := B.returns
  have hts := atoms_spec (ws := wsX1_isLoad) B.pre
  have hown : s.vm.findClass RX1 = some m.cls := findClass_of_methodNamed B.named
  have hlocks := B.notSynchronized
  have hS : va_S (fun _ => False) s.heap s.heap [] := va_S.rf
  have hl := lv_entry ([.int p1]) (n := 1) (Nat.le_of_ble_eq_true rfl)
  rw [lg_entry_eq]
  generalize (lg_sl ([.int p1]) ++ List.replicate (1 - (lg_sl ([.int p1])).length) Slot.unset).toArray = ls at hl ⊢
  have hl : lv_has ls 1 [(0, .int p1)] := hl
  refine lv_iload_n hx hb dX1_isLoad_0 rfl (lv_at hl 0 rfl) ?_
  refine lv_sipush (v := (-16000)) hx hb dX1_isLoad_1 (by decide) ?_
  refine lv_icmp_lt (tgt := 18) hx hb dX1_isLoad_4 (by decide) (fun c1 => ?_) (fun c1 => ?_)
  · refine lv_iconst (v := 0) hx hb dX1_isLoad_18 (by decide) ?_
    exact W.zret (v := 0) hx hb hr rfl (fun t ht hW => ⟨⟨0, (), rfl, (by simp only [mF_isLoad, if_pos c1]), trivial⟩, hS.F ht⟩) hS.2.2 dX1_isLoad_19
  · refine lv_iload_n hx hb dX1_isLoad_7 rfl (lv_at hl 0 rfl) ?_
    refine lv_sipush (v := 16000) hx hb dX1_isLoad_8 (by decide) ?_
    refine lv_icmp_gt (tgt := 18) hx hb dX1_isLoad_11 (by decide) (fun c2 => ?_) (fun c2 => ?_)
    · refine lv_iconst (v := 0) hx hb dX1_isLoad_18 (by decide) ?_
      exact W.zret (v := 0) hx hb hr rfl (fun t ht hW => ⟨⟨0, (), rfl, (by simp only [mF_isLoad, if_neg c1, if_pos c2]), trivial⟩, hS.F ht⟩) hS.2.2 dX1_isLoad_19
    · refine lv_iconst (v := 1) hx hb dX1_isLoad_14 (by decide) ?_
      refine lv_goto (tgt := 19) hx hb dX1_isLoad_15 (by decide) ?_
      exact W.zret (v := 1) hx hb hr rfl (fun t ht hW => ⟨⟨1, (), rfl, (by simp only [mF_isLoad, if_neg c1, if_neg c2]), trivial⟩, hS.F ht⟩) hS.2.2 dX1_isLoad_19
def mF_cut (p1 p2 : Int32) : Int32 := (if p1 = 0 then (p2 &&& 65535) else (if p1 = 3 then (p2 &&& 1) else (if p1 = 1 then (if (p2 &&& 65535) ≤ 32767 then (p2 &&& 65535) else ((p2 &&& 65535) - 65536)) else (if p1 = 4 then (if (p2 &&& 255) ≤ 127 then (p2 &&& 255) else ((p2 &&& 255) - 256)) else (if p2 ≤ 2000000 then (if (-2000000) ≤ p2 then p2 else (-2000000)) else 2000000)))))
theorem hdX1_cut : yX1_cut.cls ≠ "java/lang/invoke/MethodHandle" ∧ yX1_cut.cls ≠ "java/lang/invoke/VarHandle" ∧ (parseMethodDescriptor yX1_cut.desc).map (fun d => d.parameters.length) = some 2 := by decide +kernel
set_option maxHeartbeats 4000000 in
set_option maxRecDepth 100000 in
theorem c_X1_cut (l : Launch) (p1 p2 : Int32) : Met l yX1_cut wsX1_cut ({ frames := 0, cells := 0, slots := 0, locals := 0 }) (va_Pc [.int p1, .int p2] (fun _ => True)) (pQi (mF_cut p1 p2)) 0 0 (fun _ => False) := by
  refine Met.ofW (cc := cX1_cut) (maxL := 3) (ret := (some .int)) (by decide) rfl ?_
  intro p e s m args below meth c s₁ B hml hv
  obtain ⟨rfl, -⟩ := hv
  have hx := B.exec
  have hb := B.bytes
  have hr := B.returns
  have hts := atoms_spec (ws := wsX1_cut) B.pre
  have hown : s.vm.findClass RX1 = some m.cls := findClass_of_methodNamed B.named
  have hlocks := B.notSynchronized
  have hS : va_S (fun _ => False) s.heap s.heap [] := va_S.rf
  have hk34 := hts (.constant RX1 34 (2000000)) (by decide +kernel)
  have hk35 := hts (.constant RX1 35 (-2000000)) (by decide +kernel)
  have hk32 := hts (.constant RX1 32 (65535)) (by decide +kernel)
  have hk33 := hts (.constant RX1 33 (65536)) (by decide +kernel)
  have hl := lv_entry ([.int p1, .int p2]) (n := 3) (Nat.le_of_ble_eq_true rfl)
  rw [lg_entry_eq]
  generalize (lg_sl ([.int p1, .int p2]) ++ List.replicate (3 - (lg_sl ([.int p1, .int p2])).length) Slot.unset).toArray = ls at hl ⊢
  have hl : lv_has ls 3 [(0, .int p1), (1, .int p2)] := hl
  refine lv_iload_n hx hb dX1_cut_0 rfl (lv_at hl 0 rfl) ?_
  refine lv_if_ne (tgt := 9) hx hb dX1_cut_1 (by decide) (fun c1 => ?_) (fun c1 => ?_)
  · refine lv_iload_n hx hb dX1_cut_9 rfl (lv_at hl 0 rfl) ?_
    refine lv_iconst (v := 3) hx hb dX1_cut_10 (by decide) ?_
    refine lv_icmp_ne (tgt := 18) hx hb dX1_cut_11 (by decide) (fun c2 => ?_) (fun c2 => ?_)
    · refine lv_iload_n hx hb dX1_cut_18 rfl (lv_at hl 0 rfl) ?_
      refine lv_iconst (v := 1) hx hb dX1_cut_19 (by decide) ?_
      refine lv_icmp_ne (tgt := 44) hx hb dX1_cut_20 (by decide) (fun c3 => ?_) (fun c3 => ?_)
      · refine lv_iload_n hx hb dX1_cut_44 rfl (lv_at hl 0 rfl) ?_
        refine lv_iconst (v := 4) hx hb dX1_cut_45 (by decide) ?_
        refine lv_icmp_ne (tgt := 71) hx hb dX1_cut_46 (by decide) (fun c4 => ?_) (fun c4 => ?_)
        · refine lv_iload_n hx hb dX1_cut_71 rfl (lv_at hl 1 rfl) ?_
          refine lv_ldc (v := 2000000) hx hb hown hk34 dX1_cut_72 ?_
          refine lv_icmp_le (tgt := 82) hx hb dX1_cut_74 (by decide) (fun c5 => ?_) (fun c5 => ?_)
          · refine lv_iload_n hx hb dX1_cut_82 rfl (lv_at hl 1 rfl) ?_
            refine lv_ldc (v := (-2000000)) hx hb hown hk35 dX1_cut_83 ?_
            refine lv_icmp_ge (tgt := 93) hx hb dX1_cut_85 (by decide) (fun c6 => ?_) (fun c6 => ?_)
            · refine lv_iload_n hx hb dX1_cut_93 rfl (lv_at hl 1 rfl) ?_
              exact W.iret (v := p2) hx hb hr (fun t ht hW => ⟨⟨p2, (), rfl, (by simp only [mF_cut, if_neg c1, if_neg c2, if_neg c3, if_neg c4, if_pos c5, if_pos c6]), trivial⟩, hS.F ht⟩) hS.2.2 dX1_cut_94
            · refine lv_ldc (v := (-2000000)) hx hb hown hk35 dX1_cut_88 ?_
              refine lv_goto (tgt := 94) hx hb dX1_cut_90 (by decide) ?_
              exact W.iret (v := (-2000000)) hx hb hr (fun t ht hW => ⟨⟨(-2000000), (), rfl, (by simp only [mF_cut, if_neg c1, if_neg c2, if_neg c3, if_neg c4, if_pos c5, if_neg c6]), trivial⟩, hS.F ht⟩) hS.2.2 dX1_cut_94
          · refine lv_ldc (v := 2000000) hx hb hown hk34 dX1_cut_77 ?_
            refine lv_goto (tgt := 94) hx hb dX1_cut_79 (by decide) ?_
            exact W.iret (v := 2000000) hx hb hr (fun t ht hW => ⟨⟨2000000, (), rfl, (by simp only [mF_cut, if_neg c1, if_neg c2, if_neg c3, if_neg c4, if_neg c5]), trivial⟩, hS.F ht⟩) hS.2.2 dX1_cut_94
        · refine lv_iload_n hx hb dX1_cut_49 rfl (lv_at hl 1 rfl) ?_
          refine lv_sipush (v := 255) hx hb dX1_cut_50 (by decide) ?_
          refine lv_iand hx hb dX1_cut_53 ?_
          refine lv_istore_n (lv' := [(2, .int (p2 &&& 255)), (0, .int p1), (1, .int p2)]) hx hb dX1_cut_54 rfl hl (by decide) rfl (fun ls hl => ?_)
          refine lv_iload_n hx hb dX1_cut_55 rfl (lv_at hl 0 rfl) ?_
          refine lv_bipush (v := 127) hx hb dX1_cut_56 (by decide) ?_
          refine lv_icmp_le (tgt := 69) hx hb dX1_cut_58 (by decide) (fun c7 => ?_) (fun c7 => ?_)
          · refine lv_iload_n hx hb dX1_cut_69 rfl (lv_at hl 0 rfl) ?_
            exact W.iret (v := (p2 &&& 255)) hx hb hr (fun t ht hW => ⟨⟨(p2 &&& 255), (), rfl, (by simp only [mF_cut, if_neg c1, if_neg c2, if_neg c3, if_pos c4, if_pos c7]), trivial⟩, hS.F ht⟩) hS.2.2 dX1_cut_70
          · refine lv_iload_n hx hb dX1_cut_61 rfl (lv_at hl 0 rfl) ?_
            refine lv_sipush (v := 256) hx hb dX1_cut_62 (by decide) ?_
            refine lv_isub hx hb dX1_cut_65 ?_
            refine lv_goto (tgt := 70) hx hb dX1_cut_66 (by decide) ?_
            exact W.iret (v := ((p2 &&& 255) - 256)) hx hb hr (fun t ht hW => ⟨⟨((p2 &&& 255) - 256), (), rfl, (by simp only [mF_cut, if_neg c1, if_neg c2, if_neg c3, if_pos c4, if_neg c7]), trivial⟩, hS.F ht⟩) hS.2.2 dX1_cut_70
      · refine lv_iload_n hx hb dX1_cut_23 rfl (lv_at hl 1 rfl) ?_
        refine lv_ldc (v := 65535) hx hb hown hk32 dX1_cut_24 ?_
        refine lv_iand hx hb dX1_cut_26 ?_
        refine lv_istore_n (lv' := [(2, .int (p2 &&& 65535)), (0, .int p1), (1, .int p2)]) hx hb dX1_cut_27 rfl hl (by decide) rfl (fun ls hl => ?_)
        refine lv_iload_n hx hb dX1_cut_28 rfl (lv_at hl 0 rfl) ?_
        refine lv_sipush (v := 32767) hx hb dX1_cut_29 (by decide) ?_
        refine lv_icmp_le (tgt := 42) hx hb dX1_cut_32 (by decide) (fun c8 => ?_) (fun c8 => ?_)
        · refine lv_iload_n hx hb dX1_cut_42 rfl (lv_at hl 0 rfl) ?_
          exact W.iret (v := (p2 &&& 65535)) hx hb hr (fun t ht hW => ⟨⟨(p2 &&& 65535), (), rfl, (by simp only [mF_cut, if_neg c1, if_neg c2, if_pos c3, if_pos c8]), trivial⟩, hS.F ht⟩) hS.2.2 dX1_cut_43
        · refine lv_iload_n hx hb dX1_cut_35 rfl (lv_at hl 0 rfl) ?_
          refine lv_ldc (v := 65536) hx hb hown hk33 dX1_cut_36 ?_
          refine lv_isub hx hb dX1_cut_38 ?_
          refine lv_goto (tgt := 43) hx hb dX1_cut_39 (by decide) ?_
          exact W.iret (v := ((p2 &&& 65535) - 65536)) hx hb hr (fun t ht hW => ⟨⟨((p2 &&& 65535) - 65536), (), rfl, (by simp only [mF_cut, if_neg c1, if_neg c2, if_pos c3, if_neg c8]), trivial⟩, hS.F ht⟩) hS.2.2 dX1_cut_43
    · refine lv_iload_n hx hb dX1_cut_14 rfl (lv_at hl 1 rfl) ?_
      refine lv_iconst (v := 1) hx hb dX1_cut_15 (by decide) ?_
      refine lv_iand hx hb dX1_cut_16 ?_
      exact W.iret (v := (p2 &&& 1)) hx hb hr (fun t ht hW => ⟨⟨(p2 &&& 1), (), rfl, (by simp only [mF_cut, if_neg c1, if_pos c2]), trivial⟩, hS.F ht⟩) hS.2.2 dX1_cut_17
  · refine lv_iload_n hx hb dX1_cut_4 rfl (lv_at hl 1 rfl) ?_
    refine lv_ldc (v := 65535) hx hb hown hk32 dX1_cut_5 ?_
    refine lv_iand hx hb dX1_cut_7 ?_
    exact W.iret (v := (p2 &&& 65535)) hx hb hr (fun t ht hW => ⟨⟨(p2 &&& 65535), (), rfl, (by simp only [mF_cut, if_pos c1]), trivial⟩, hS.F ht⟩) hS.2.2 dX1_cut_8
def mF_gate (p1 p2 p3 : Int32) : Int32 := (if p2 = 0 then (if p1 = 1 then 1 else (if (p3 &&& 1) = 1 then 1 else 0)) else (if p2 = 1 then (if p1 = 1 then (if (p3 &&& 1) = 1 then 1 else 0) else 0) else (if p2 = 2 then (1 - p1) else (if (p3 &&& 1) = 1 then (1 - p1) else p1))))
theorem hdX1_gate : yX1_gate.cls ≠ "java/lang/invoke/MethodHandle" ∧ yX1_gate.cls ≠ "java/lang/invoke/VarHandle" ∧ (parseMethodDescriptor yX1_gate.desc).map (fun d => d.parameters.length) = some 3 := by decide +kernel
set_option maxHeartbeats 4000000 in
set_option maxRecDepth 100000 in
theorem c_X1_gate (l : Launch) (p1 p2 p3 : Int32) : Met l yX1_gate wsX1_gate ({ frames := 0, cells := 0, slots := 0, locals := 0 }) (va_Pc [.int p1, .int p2, .int p3] (fun _ => True)) (pQi (mF_gate p1 p2 p3)) 0 0 (fun _ => False) := by
  refine Met.ofW (cc := cX1_gate) (maxL := 4) (ret := (some .int)) (by decide) rfl ?_
  intro p e s m args below meth c s₁ B hml hv
  obtain ⟨rfl, -⟩ := hv
  have hx := B.exec
  have hb := B.bytes
  have hr := B.returns
  have hts := atoms_spec (ws := wsX1_gate) B.pre
  have hown : s.vm.findClass RX1 = some m.cls := findClass_of_methodNamed B.named
  have hlocks := B.notSynchronized
  have hS : va_S (fun _ => False) s.heap s.heap [] := va_S.rf
  have hl := lv_entry ([.int p1, .int p2, .int p3]) (n := 4) (Nat.le_of_ble_eq_true rfl)
  rw [lg_entry_eq]
  generalize (lg_sl ([.int p1, .int p2, .int p3]) ++ List.replicate (4 - (lg_sl ([.int p1, .int p2, .int p3])).length) Slot.unset).toArray = ls at hl ⊢
  have hl : lv_has ls 4 [(0, .int p1), (1, .int p2), (2, .int p3)] := hl
  refine lv_iload_n hx hb dX1_gate_0 rfl (lv_at hl 2 rfl) ?_
  refine lv_iconst (v := 1) hx hb dX1_gate_1 (by decide) ?_
  refine lv_iand hx hb dX1_gate_2 ?_
  refine lv_istore_n (lv' := [(3, .int (p3 &&& 1)), (0, .int p1), (1, .int p2), (2, .int p3)]) hx hb dX1_gate_3 rfl hl (by decide) rfl (fun ls hl => ?_)
  refine lv_iload_n hx hb dX1_gate_4 rfl (lv_at hl 2 rfl) ?_
  refine lv_if_ne (tgt := 24) hx hb dX1_gate_5 (by decide) (fun c1 => ?_) (fun c1 => ?_)
  · refine lv_iload_n hx hb dX1_gate_24 rfl (lv_at hl 2 rfl) ?_
    refine lv_iconst (v := 1) hx hb dX1_gate_25 (by decide) ?_
    refine lv_icmp_ne (tgt := 45) hx hb dX1_gate_26 (by decide) (fun c2 => ?_) (fun c2 => ?_)
    · refine lv_iload_n hx hb dX1_gate_45 rfl (lv_at hl 2 rfl) ?_
      refine lv_iconst (v := 2) hx hb dX1_gate_46 (by decide) ?_
      refine lv_icmp_eq (tgt := 55) hx hb dX1_gate_47 (by decide) (fun c3 => ?_) (fun c3 => ?_)
      · refine lv_iconst (v := 1) hx hb dX1_gate_55 (by decide) ?_
        refine lv_iload_n hx hb dX1_gate_56 rfl (lv_at hl 1 rfl) ?_
        refine lv_isub hx hb dX1_gate_57 ?_
        refine lv_goto (tgt := 62) hx hb dX1_gate_58 (by decide) ?_
        exact W.iret (v := (1 - p1)) hx hb hr (fun t ht hW => ⟨⟨(1 - p1), (), rfl, (by simp only [mF_gate, if_neg c1, if_neg c2, if_pos c3]), trivial⟩, hS.F ht⟩) hS.2.2 dX1_gate_62
      · refine lv_iload_n hx hb dX1_gate_50 rfl (lv_at hl 0 rfl) ?_
        refine lv_iconst (v := 1) hx hb dX1_gate_51 (by decide) ?_
        refine lv_icmp_ne (tgt := 61) hx hb dX1_gate_52 (by decide) (fun c4 => ?_) (fun c4 => ?_)
        · refine lv_iload_n hx hb dX1_gate_61 rfl (lv_at hl 1 rfl) ?_
          exact W.iret (v := p1) hx hb hr (fun t ht hW => ⟨⟨p1, (), rfl, (by simp only [mF_gate, if_neg c1, if_neg c2, if_neg c3, if_neg c4]), trivial⟩, hS.F ht⟩) hS.2.2 dX1_gate_62
        · refine lv_iconst (v := 1) hx hb dX1_gate_55 (by decide) ?_
          refine lv_iload_n hx hb dX1_gate_56 rfl (lv_at hl 1 rfl) ?_
          refine lv_isub hx hb dX1_gate_57 ?_
          refine lv_goto (tgt := 62) hx hb dX1_gate_58 (by decide) ?_
          exact W.iret (v := (1 - p1)) hx hb hr (fun t ht hW => ⟨⟨(1 - p1), (), rfl, (by simp only [mF_gate, if_neg c1, if_neg c2, if_neg c3, if_pos c4]), trivial⟩, hS.F ht⟩) hS.2.2 dX1_gate_62
    · refine lv_iload_n hx hb dX1_gate_29 rfl (lv_at hl 1 rfl) ?_
      refine lv_iconst (v := 1) hx hb dX1_gate_30 (by decide) ?_
      refine lv_icmp_ne (tgt := 43) hx hb dX1_gate_31 (by decide) (fun c5 => ?_) (fun c5 => ?_)
      · refine lv_iconst (v := 0) hx hb dX1_gate_43 (by decide) ?_
        exact W.iret (v := 0) hx hb hr (fun t ht hW => ⟨⟨0, (), rfl, (by simp only [mF_gate, if_neg c1, if_pos c2, if_neg c5]), trivial⟩, hS.F ht⟩) hS.2.2 dX1_gate_44
      · refine lv_iload_n hx hb dX1_gate_34 rfl (lv_at hl 0 rfl) ?_
        refine lv_iconst (v := 1) hx hb dX1_gate_35 (by decide) ?_
        refine lv_icmp_ne (tgt := 43) hx hb dX1_gate_36 (by decide) (fun c6 => ?_) (fun c6 => ?_)
        · refine lv_iconst (v := 0) hx hb dX1_gate_43 (by decide) ?_
          exact W.iret (v := 0) hx hb hr (fun t ht hW => ⟨⟨0, (), rfl, (by simp only [mF_gate, if_neg c1, if_pos c2, if_pos c5, if_neg c6]), trivial⟩, hS.F ht⟩) hS.2.2 dX1_gate_44
        · refine lv_iconst (v := 1) hx hb dX1_gate_39 (by decide) ?_
          refine lv_goto (tgt := 44) hx hb dX1_gate_40 (by decide) ?_
          exact W.iret (v := 1) hx hb hr (fun t ht hW => ⟨⟨1, (), rfl, (by simp only [mF_gate, if_neg c1, if_pos c2, if_pos c5, if_pos c6]), trivial⟩, hS.F ht⟩) hS.2.2 dX1_gate_44
  · refine lv_iload_n hx hb dX1_gate_8 rfl (lv_at hl 1 rfl) ?_
    refine lv_iconst (v := 1) hx hb dX1_gate_9 (by decide) ?_
    refine lv_icmp_eq (tgt := 18) hx hb dX1_gate_10 (by decide) (fun c7 => ?_) (fun c7 => ?_)
    · refine lv_iconst (v := 1) hx hb dX1_gate_18 (by decide) ?_
      refine lv_goto (tgt := 23) hx hb dX1_gate_19 (by decide) ?_
      exact W.iret (v := 1) hx hb hr (fun t ht hW => ⟨⟨1, (), rfl, (by simp only [mF_gate, if_pos c1, if_pos c7]), trivial⟩, hS.F ht⟩) hS.2.2 dX1_gate_23
    · refine lv_iload_n hx hb dX1_gate_13 rfl (lv_at hl 0 rfl) ?_
      refine lv_iconst (v := 1) hx hb dX1_gate_14 (by decide) ?_
      refine lv_icmp_ne (tgt := 22) hx hb dX1_gate_15 (by decide) (fun c8 => ?_) (fun c8 => ?_)
      · refine lv_iconst (v := 0) hx hb dX1_gate_22 (by decide) ?_
        exact W.iret (v := 0) hx hb hr (fun t ht hW => ⟨⟨0, (), rfl, (by simp only [mF_gate, if_pos c1, if_neg c7, if_neg c8]), trivial⟩, hS.F ht⟩) hS.2.2 dX1_gate_23
      · refine lv_iconst (v := 1) hx hb dX1_gate_18 (by decide) ?_
        refine lv_goto (tgt := 23) hx hb dX1_gate_19 (by decide) ?_
        exact W.iret (v := 1) hx hb hr (fun t ht hW => ⟨⟨1, (), rfl, (by simp only [mF_gate, if_pos c1, if_neg c7, if_pos c8]), trivial⟩, hS.F ht⟩) hS.2.2 dX1_gate_23
def mF_isChamber (S : MS) (p1 : Int32) : Int32 := (if p1 < 0 then 0 else (if (mN S) ≤ p1 then 0 else 1))
theorem hdX1_isChamber : yX1_isChamber.cls = RX1 ∧ yX1_isChamber.cls ≠ "java/lang/invoke/MethodHandle" ∧ yX1_isChamber.cls ≠ "java/lang/invoke/VarHandle" ∧ (parseMethodDescriptor yX1_isChamber.desc).map (fun d => d.parameters.length) = some 1 := by decide +kernel
set_option maxHeartbeats 4000000 in
set_option maxRecDepth 100000 in
theorem c_X1_isChamber (l : Launch) (D : va_G) (a : MA) (hO : mOk a) (S : MS) (p1 : Int32) : Met l yX1_isChamber wsX1_isChamber ({ frames := 0, cells := 0, slots := 0, locals := 0 }) (va_Pc [.ref (ma a), .int p1] (mB D a S)) (va_Qi (fun (r : Int32) (u : MS) => mF_isChamber S p1 = r ∧ u = S) (mB D a) (mA a)) 0 0 (mA a) := by
  refine Met.ofW (cc := cX1_isChamber) (maxL := 2) (ret := (some .boolean)) (by decide) rfl ?_
  intro p e s m args below meth c s₁ B hml hv
  obtain ⟨rfl, hP, hK⟩ := hv
  have hx := B.exec
  have hb := B.bytes
  have hr := B.returns
  have hts := atoms_spec (ws := wsX1_isChamber) B.pre
  have hown : s.vm.findClass RX1 = some m.cls := findClass_of_methodNamed B.named
  have hlocks := B.notSynchronized
  have hS : va_S (mA a) s.heap s.heap [] := va_S.rf
  have hP : va_P D vwCl (mW a S) s.heap := hP
  have hu : ∀ w ∈ wsX10, w ∈ wsX1_isChamber := fun _ h => List.mem_cons_of_mem _ (List.mem_append_right _ h)
  have hf19 := hts (.fieldLink RX1 19 "FlightBooksModel" "chambers" "I") (by decide +kernel)
  have hl := lv_entry ([.ref (ma a), .int p1]) (n := 2) (Nat.le_of_ble_eq_true rfl)
  rw [lg_entry_eq]
  generalize (lg_sl ([.ref (ma a), .int p1]) ++ List.replicate (2 - (lg_sl ([.ref (ma a), .int p1])).length) Slot.unset).toArray = ls at hl ⊢
  have hl : lv_has ls 2 [(0, .ref (ma a)), (1, .int p1)] := hl
  refine lv_iload_n hx hb dX1_isChamber_0 rfl (lv_at hl 1 rfl) ?_
  refine lv_if_lt (tgt := 16) hx hb dX1_isChamber_1 (by decide) (fun c1 => ?_) (fun c1 => ?_)
  · refine lv_iconst (v := 0) hx hb dX1_isChamber_16 (by decide) ?_
    exact W.zret (v := 0) hx hb hr rfl (fun t ht hW => ⟨⟨0, S, rfl, ⟨(by simp only [mF_isChamber, if_pos c1]), rfl⟩, by rw [ht]; exact hP, va_K.moved hW.alike hK⟩, hS.F ht⟩) hS.2.2 dX1_isChamber_17
  · refine lv_iload_n hx hb dX1_isChamber_4 rfl (lv_at hl 1 rfl) ?_
    refine lv_aload_n hx hb dX1_isChamber_5 rfl (lv_at hl 0 rfl) ?_
    refine m_get hx hb hts hu hown hK hP 0 (by decide) hf19 rfl (v := .int (mN S)) rfl dX1_isChamber_6 ?_
    refine lv_icmp_ge (tgt := 16) hx hb dX1_isChamber_9 (by decide) (fun c2 => ?_) (fun c2 => ?_)
    · refine lv_iconst (v := 0) hx hb dX1_isChamber_16 (by decide) ?_
      exact W.zret (v := 0) hx hb hr rfl (fun t ht hW => ⟨⟨0, S, rfl, ⟨(by simp only [mF_isChamber, if_neg c1, if_pos c2]), rfl⟩, by rw [ht]; exact hP, va_K.moved hW.alike hK⟩, hS.F ht⟩) hS.2.2 dX1_isChamber_17
    · refine lv_iconst (v := 1) hx hb dX1_isChamber_12 (by decide) ?_
      refine lv_goto (tgt := 17) hx hb dX1_isChamber_13 (by decide) ?_
      exact W.zret (v := 1) hx hb hr rfl (fun t ht hW => ⟨⟨1, S, rfl, ⟨(by simp only [mF_isChamber, if_neg c1, if_neg c2]), rfl⟩, by rw [ht]; exact hP, va_K.moved hW.alike hK⟩, hS.F ht⟩) hS.2.2 dX1_isChamber_17
theorem me_book {b r : Int32} (h : mF_isBook b = r) (c : ¬ r = 0) : vp_in b 5 := by
  unfold mF_isBook at h
  by_cases h1 : b < 0
  · rw [if_pos h1] at h; exact absurd h.symm c
  · rw [if_neg h1] at h
    by_cases h2 : (5 : Int32) ≤ b
    · rw [if_pos h2] at h; exact absurd h.symm c
    · exact in_of' (by decide) h1 h2
theorem me_cham {S : MS} {b r : Int32} (hI : mI S) (h : mF_isChamber S b = r) (c : ¬ r = 0) : vp_in b 24 := by
  unfold mF_isChamber at h
  by_cases h1 : b < 0
  · rw [if_pos h1] at h; exact absurd h.symm c
  · rw [if_neg h1] at h
    by_cases h2 : mN S ≤ b
    · rw [if_pos h2] at h; exact absurd h.symm c
    · exact in_of' (by have := hI.2.1.2; omega) h1 h2
def mF_has (S : MS) (p1 p2 : Int32) : Int32 × MS := (if (mFa S) = 0 then (if 0 ≤ (mc S p1) then (if p2 < 0 then (if ((-200000) - p1) = 0 then (1, (msFa S ((-200000) - p1))) else (0, (msFa S ((-200000) - p1)))) else (if p2 < (mc S p1) then (1, S) else (if ((-200000) - p1) = 0 then (1, (msFa S ((-200000) - p1))) else (0, (msFa S ((-200000) - p1)))))) else (if ((-100000) - p1) = 0 then (1, (msFa S ((-100000) - p1))) else (0, (msFa S ((-100000) - p1))))) else (0, S))
theorem hdX1_has : yX1_has.cls = RX1 ∧ yX1_has.cls ≠ "java/lang/invoke/MethodHandle" ∧ yX1_has.cls ≠ "java/lang/invoke/VarHandle" ∧ (parseMethodDescriptor yX1_has.desc).map (fun d => d.parameters.length) = some 2 := by decide +kernel
set_option maxHeartbeats 4000000 in
set_option maxRecDepth 100000 in
theorem c_X1_has (l : Launch) (D : va_G) (a : MA) (hO : mOk a) (S : MS) (p1 p2 : Int32) (h5_0 : vp_in p1 5) : Met l yX1_has wsX1_has ({ frames := 0, cells := 0, slots := 0, locals := 0 }) (va_Pc [.ref (ma a), .int p1, .int p2] (mB D a S)) (mQi D a (mF_has S p1 p2)) 0 0 (mA a) := by
  refine Met.ofW (cc := cX1_has) (maxL := 3) (ret := (some .boolean)) (by decide) rfl ?_
  intro p e s m args below meth c s₁ B hml hv
  obtain ⟨rfl, hP, hK⟩ := hv
  have hx := B.exec
  have hb := B.bytes
  have hr := B.returns
  have hts := atoms_spec (ws := wsX1_has) B.pre
  have hown : s.vm.findClass RX1 = some m.cls := findClass_of_methodNamed B.named
  have hlocks := B.notSynchronized
  have hS : va_S (mA a) s.heap s.heap [] := va_S.rf
  have hP : va_P D vwCl (mW a S) s.heap := hP
  have hu : ∀ w ∈ wsX10, w ∈ wsX1_has := fun _ h => List.mem_cons_of_mem _ (List.mem_append_right _ h)
  have hf23 := hts (.fieldLink RX1 23 "FlightBooksModel" "fault" "I") (by decide +kernel)
  have hf7 := hts (.fieldLink RX1 7 "FlightBooksModel" "many" "[I") (by decide +kernel)
  have hk27 := hts (.constant RX1 27 (-200000)) (by decide +kernel)
  have hk26 := hts (.constant RX1 26 (-100000)) (by decide +kernel)
  have hl := lv_entry ([.ref (ma a), .int p1, .int p2]) (n := 3) (Nat.le_of_ble_eq_true rfl)
  rw [lg_entry_eq]
  generalize (lg_sl ([.ref (ma a), .int p1, .int p2]) ++ List.replicate (3 - (lg_sl ([.ref (ma a), .int p1, .int p2])).length) Slot.unset).toArray = ls at hl ⊢
  have hl : lv_has ls 3 [(0, .ref (ma a)), (1, .int p1), (2, .int p2)] := hl
  refine lv_aload_n hx hb dX1_has_0 rfl (lv_at hl 0 rfl) ?_
  refine m_get hx hb hts hu hown hK hP 11 (by decide) hf23 rfl (v := .int (mFa S)) rfl dX1_has_1 ?_
  refine lv_if_eq (tgt := 9) hx hb dX1_has_4 (by decide) (fun c1 => ?_) (fun c1 => ?_)
  · refine lv_aload_n hx hb dX1_has_9 rfl (lv_at hl 0 rfl) ?_
    refine m_get hx hb hts hu hown hK hP 1 (by decide) hf7 rfl (v := .ref (mac a)) rfl dX1_has_10 ?_
    refine lv_iload_n hx hb dX1_has_13 rfl (lv_at hl 1 rfl) ?_
    refine m_ldc hx hb hK hP h5_0 dX1_has_14 ?_
    refine lv_if_ge (tgt := 29) hx hb dX1_has_15 (by decide) (fun c2 => ?_) (fun c2 => ?_)
    · refine lv_iload_n hx hb dX1_has_29 rfl (lv_at hl 2 rfl) ?_
      refine lv_if_lt (tgt := 43) hx hb dX1_has_30 (by decide) (fun c3 => ?_) (fun c3 => ?_)
      · refine lv_aload_n hx hb dX1_has_43 rfl (lv_at hl 0 rfl) ?_
        refine lv_ldc (v := (-200000)) hx hb hown hk27 dX1_has_44 ?_
        refine lv_iload_n hx hb dX1_has_46 rfl (lv_at hl 1 rfl) ?_
        refine lv_isub hx hb dX1_has_47 ?_
        refine m_puti hx hb hts hu hown hO hK hP hS 11 (by decide) hf23 rfl rfl (by decide +kernel) (msFa S) (fun _ => rfl) (fun _ => rfl) dX1_has_48 (fun H locs hP hS => ?_)
        refine lv_aload_n hx hb dX1_has_51 rfl (lv_at hl 0 rfl) ?_
        refine m_get hx hb hts hu hown hK hP 11 (by decide) hf23 rfl (v := .int ((-200000) - p1)) rfl dX1_has_52 ?_
        refine lv_if_ne (tgt := 62) hx hb dX1_has_55 (by decide) (fun c4 => ?_) (fun c4 => ?_)
        · refine lv_iconst (v := 0) hx hb dX1_has_62 (by decide) ?_
          exact W.zret (v := 0) hx hb hr rfl (fun t ht hW => ⟨⟨0, (msFa S ((-200000) - p1)), rfl, (by simp only [mF_has, if_pos c1, if_pos c2, if_pos c3, if_neg c4]), by rw [ht]; exact hP, va_K.moved hW.alike hK⟩, hS.F ht⟩) hS.2.2 dX1_has_63
        · refine lv_iconst (v := 1) hx hb dX1_has_58 (by decide) ?_
          refine lv_goto (tgt := 63) hx hb dX1_has_59 (by decide) ?_
          exact W.zret (v := 1) hx hb hr rfl (fun t ht hW => ⟨⟨1, (msFa S ((-200000) - p1)), rfl, (by simp only [mF_has, if_pos c1, if_pos c2, if_pos c3, if_pos c4]), by rw [ht]; exact hP, va_K.moved hW.alike hK⟩, hS.F ht⟩) hS.2.2 dX1_has_63
      · refine lv_iload_n hx hb dX1_has_33 rfl (lv_at hl 2 rfl) ?_
        refine lv_aload_n hx hb dX1_has_34 rfl (lv_at hl 0 rfl) ?_
        refine m_get hx hb hts hu hown hK hP 1 (by decide) hf7 rfl (v := .ref (mac a)) rfl dX1_has_35 ?_
        refine lv_iload_n hx hb dX1_has_38 rfl (lv_at hl 1 rfl) ?_
        refine m_ldc hx hb hK hP h5_0 dX1_has_39 ?_
        refine lv_icmp_lt (tgt := 51) hx hb dX1_has_40 (by decide) (fun c5 => ?_) (fun c5 => ?_)
        · refine lv_aload_n hx hb dX1_has_51 rfl (lv_at hl 0 rfl) ?_
          refine m_get hx hb hts hu hown hK hP 11 (by decide) hf23 rfl (v := .int (mFa S)) rfl dX1_has_52 ?_
          refine lv_if_ne (tgt := 62) hx hb dX1_has_55 (by decide) (fun c6 => ?_) (fun c6 => ?_)
          · exact absurd c1 c6
          · refine lv_iconst (v := 1) hx hb dX1_has_58 (by decide) ?_
            refine lv_goto (tgt := 63) hx hb dX1_has_59 (by decide) ?_
            exact W.zret (v := 1) hx hb hr rfl (fun t ht hW => ⟨⟨1, S, rfl, (by simp only [mF_has, if_pos c1, if_pos c2, if_neg c3, if_pos c5]), by rw [ht]; exact hP, va_K.moved hW.alike hK⟩, hS.F ht⟩) hS.2.2 dX1_has_63
        · refine lv_aload_n hx hb dX1_has_43 rfl (lv_at hl 0 rfl) ?_
          refine lv_ldc (v := (-200000)) hx hb hown hk27 dX1_has_44 ?_
          refine lv_iload_n hx hb dX1_has_46 rfl (lv_at hl 1 rfl) ?_
          refine lv_isub hx hb dX1_has_47 ?_
          refine m_puti hx hb hts hu hown hO hK hP hS 11 (by decide) hf23 rfl rfl (by decide +kernel) (msFa S) (fun _ => rfl) (fun _ => rfl) dX1_has_48 (fun H locs hP hS => ?_)
          refine lv_aload_n hx hb dX1_has_51 rfl (lv_at hl 0 rfl) ?_
          refine m_get hx hb hts hu hown hK hP 11 (by decide) hf23 rfl (v := .int ((-200000) - p1)) rfl dX1_has_52 ?_
          refine lv_if_ne (tgt := 62) hx hb dX1_has_55 (by decide) (fun c7 => ?_) (fun c7 => ?_)
          · refine lv_iconst (v := 0) hx hb dX1_has_62 (by decide) ?_
            exact W.zret (v := 0) hx hb hr rfl (fun t ht hW => ⟨⟨0, (msFa S ((-200000) - p1)), rfl, (by simp only [mF_has, if_pos c1, if_pos c2, if_neg c3, if_neg c5, if_neg c7]), by rw [ht]; exact hP, va_K.moved hW.alike hK⟩, hS.F ht⟩) hS.2.2 dX1_has_63
          · refine lv_iconst (v := 1) hx hb dX1_has_58 (by decide) ?_
            refine lv_goto (tgt := 63) hx hb dX1_has_59 (by decide) ?_
            exact W.zret (v := 1) hx hb hr rfl (fun t ht hW => ⟨⟨1, (msFa S ((-200000) - p1)), rfl, (by simp only [mF_has, if_pos c1, if_pos c2, if_neg c3, if_neg c5, if_pos c7]), by rw [ht]; exact hP, va_K.moved hW.alike hK⟩, hS.F ht⟩) hS.2.2 dX1_has_63
    · refine lv_aload_n hx hb dX1_has_18 rfl (lv_at hl 0 rfl) ?_
      refine lv_ldc (v := (-100000)) hx hb hown hk26 dX1_has_19 ?_
      refine lv_iload_n hx hb dX1_has_21 rfl (lv_at hl 1 rfl) ?_
      refine lv_isub hx hb dX1_has_22 ?_
      refine m_puti hx hb hts hu hown hO hK hP hS 11 (by decide) hf23 rfl rfl (by decide +kernel) (msFa S) (fun _ => rfl) (fun _ => rfl) dX1_has_23 (fun H locs hP hS => ?_)
      refine lv_goto (tgt := 51) hx hb dX1_has_26 (by decide) ?_
      refine lv_aload_n hx hb dX1_has_51 rfl (lv_at hl 0 rfl) ?_
      refine m_get hx hb hts hu hown hK hP 11 (by decide) hf23 rfl (v := .int ((-100000) - p1)) rfl dX1_has_52 ?_
      refine lv_if_ne (tgt := 62) hx hb dX1_has_55 (by decide) (fun c8 => ?_) (fun c8 => ?_)
      · refine lv_iconst (v := 0) hx hb dX1_has_62 (by decide) ?_
        exact W.zret (v := 0) hx hb hr rfl (fun t ht hW => ⟨⟨0, (msFa S ((-100000) - p1)), rfl, (by simp only [mF_has, if_pos c1, if_neg c2, if_neg c8]), by rw [ht]; exact hP, va_K.moved hW.alike hK⟩, hS.F ht⟩) hS.2.2 dX1_has_63
      · refine lv_iconst (v := 1) hx hb dX1_has_58 (by decide) ?_
        refine lv_goto (tgt := 63) hx hb dX1_has_59 (by decide) ?_
        exact W.zret (v := 1) hx hb hr rfl (fun t ht hW => ⟨⟨1, (msFa S ((-100000) - p1)), rfl, (by simp only [mF_has, if_pos c1, if_neg c2, if_pos c8]), by rw [ht]; exact hP, va_K.moved hW.alike hK⟩, hS.F ht⟩) hS.2.2 dX1_has_63
  · refine lv_iconst (v := 0) hx hb dX1_has_7 (by decide) ?_
    exact W.zret (v := 0) hx hb hr rfl (fun t ht hW => ⟨⟨0, S, rfl, (by simp only [mF_has, if_neg c1]), by rw [ht]; exact hP, va_K.moved hW.alike hK⟩, hS.F ht⟩) hS.2.2 dX1_has_8
theorem mI_fa {S : MS} (v : Int32) (hI : mI S) : mI (msFa S v) := hI
theorem mI_has2 {S : MS} (b i : Int32) (hI : mI S) : mI (mF_has S b i).2 := by
  simp only [mF_has]
  repeat' split
  all_goals first | exact mI_fa _ hI | exact hI
theorem ms_sub {x b : Int32} (c : Int32) (h5 : vp_in b 5) (hc : c.toInt + 10 < 0 ∧ -1000000 < c.toInt) : ¬ c - b = 0 := by
  obtain ⟨j, hj, rfl⟩ := vp_in_of h5 (by decide)
  intro h
  have h2 : (c - nI j).toInt = 0 := by rw [h]; decide
  rw [Int32.toInt_sub, nI_toInt (by omega)] at h2
  have h3 : (c.toInt - (j : Int)).bmod (2 ^ 32) = c.toInt - (j : Int) := Int.bmod_eq_of_le (by omega) (by omega)
  omega
theorem me_has {S S1 : MS} {b i r : Int32} (hI : mI S) (h5 : vp_in b 5) (h : mF_has S b i = (r, S1)) (c : ¬ r = 0) : vp_in i 24 ∧ S = S1 := by
  simp only [mF_has] at h
  by_cases h0 : mFa S = 0
  · rw [if_pos h0] at h
    by_cases h1 : 0 ≤ mc S b
    · rw [if_pos h1] at h
      by_cases h2 : i < 0
      · rw [if_pos h2, if_neg (ms_sub (x := 0) (-200000) h5 (by decide))] at h
        exact absurd (Prod.mk.inj h).1.symm c
      · rw [if_neg h2] at h
        by_cases h3 : i < mc S b
        · rw [if_pos h3] at h
          exact ⟨in_of (hI.1 _ (vk_lt h5)).2 h2 h3, (Prod.mk.inj h).2⟩
        · rw [if_neg h3, if_neg (ms_sub (x := 0) (-200000) h5 (by decide))] at h
          exact absurd (Prod.mk.inj h).1.symm c
    · rw [if_neg h1, if_neg (ms_sub (x := 0) (-100000) h5 (by decide))] at h
      exact absurd (Prod.mk.inj h).1.symm c
  · rw [if_neg h0] at h
    exact absurd (Prod.mk.inj h).1.symm c
theorem mI_fault {S : MS} (v : Int32) (hI : mI S) : mI (msFa S v) := hI
theorem mI_out {S : MS} (v : Int32) (hI : mI S) : mI (msOu S v) := hI
theorem mI_outLoads {S : MS} (v : Int32) (hI : mI S) : mI (msOl S v) := hI
def mF_cell (S : MS) (p1 p2 : Int32) : Int32 × MS := (let q1 := mF_has S p1 p2; (if q1.1 = 0 then (0, q1.2) else ((mh q1.2 ((24 * p1) + p2)), q1.2)))
theorem hdX1_cell : yX1_cell.cls = RX1 ∧ yX1_cell.cls ≠ "java/lang/invoke/MethodHandle" ∧ yX1_cell.cls ≠ "java/lang/invoke/VarHandle" ∧ (parseMethodDescriptor yX1_cell.desc).map (fun d => d.parameters.length) = some 2 := by decide +kernel
set_option maxHeartbeats 4000000 in
set_option maxRecDepth 100000 in
theorem c_X1_cell (l : Launch) (D : va_G) (a : MA) (hO : mOk a) (S : MS) (p1 p2 : Int32) (hI : mI S) (h5_0 : vp_in p1 5) : Met l yX1_cell wsX1_cell ({ frames := 1, cells := 0, slots := 0, locals := 22 }) (va_Pc [.ref (ma a), .int p1, .int p2] (mB D a S)) (mQi D a (mF_cell S p1 p2)) 0 0 (mA a) := by
  refine Met.ofW (cc := cX1_cell) (maxL := 3) (ret := (some .int)) (by decide) rfl ?_
  intro p e s m args below meth c s₁ B hml hv
  obtain ⟨rfl, hP, hK⟩ := hv
  have hx := B.exec
  have hb := B.bytes
  have hr := B.returns
  have hts := atoms_spec (ws := wsX1_cell) B.pre
  have hown : s.vm.findClass RX1 = some m.cls := findClass_of_methodNamed B.named
  have hlocks := B.notSynchronized
  have hS : va_S (mA a) s.heap s.heap [] := va_S.rf
  have hP : va_P D vwCl (mW a S) s.heap := hP
  have hu : ∀ w ∈ wsX10, w ∈ wsX1_cell := fun _ h => List.mem_cons_of_mem _ (List.mem_append_right _ h)
  have hf13 := hts (.fieldLink RX1 13 "FlightBooksModel" "cells" "[I") (by decide +kernel)
  have hl := lv_entry ([.ref (ma a), .int p1, .int p2]) (n := 3) (Nat.le_of_ble_eq_true rfl)
  rw [lg_entry_eq]
  generalize (lg_sl ([.ref (ma a), .int p1, .int p2]) ++ List.replicate (3 - (lg_sl ([.ref (ma a), .int p1, .int p2])).length) Slot.unset).toArray = ls at hl ⊢
  have hl : lv_has ls 3 [(0, .ref (ma a)), (1, .int p1), (2, .int p2)] := hl
  refine lv_aload_n hx hb dX1_cell_0 rfl (lv_at hl 0 rfl) ?_
  refine lv_iload_n hx hb dX1_cell_1 rfl (lv_at hl 1 rfl) ?_
  refine lv_iload_n hx hb dX1_cell_2 rfl (lv_at hl 2 rfl) ?_
  refine va_calli (va_runV (As := [.int p1, .int p2]) (rest := []) ⟨hx, hb, hml, hown, hts⟩ (c_X1_has l D a hO S p1 p2 h5_0) (cwV 2 hts gX1_cell_X1_has rfl rfl rfl hdX1_has ⟨Nat.le_of_ble_eq_true rfl, Nat.le_of_ble_eq_true rfl⟩) (mPreV hK hP) rfl rfl hl.1 rfl (lv_room (Nat.le_of_ble_eq_true rfl)) dX1_cell_3 ⟨Nat.zero_le _, Nat.zero_le _⟩) hS (fun q _ h => h) (fun q h => h) (fun r1 S1 t H1 locs ht hvm hw1 hB hz1 hk1 hS => ?_)
  obtain ⟨hP, -⟩ := hB
  rw [ht] at hP
  refine lv_if_eq (tgt := 23) hx hb dX1_cell_6 (by decide) (fun c3 => ?_) (fun c3 => ?_)
  · refine lv_iconst (v := 0) hx hb dX1_cell_23 (by decide) ?_
    exact W.iret (v := 0) hx hb hr (fun t ht hW => ⟨⟨0, S1, rfl, (by simp only [mF_cell, hw1, if_pos c3]), by rw [ht]; exact hP, va_K.moved hW.alike hK⟩, hS.F ht⟩) hS.2.2 dX1_cell_24
  · obtain ⟨hn5, hs5⟩ := me_has hI h5_0 hw1 c3
    subst hs5
    have hj5 := me_ix h5_0 hn5
    refine lv_aload_n hx hb dX1_cell_9 rfl (lv_at hl 0 rfl) ?_
    refine m_get hx hb hts hu hown hK hP 2 (by decide) hf13 rfl (v := .ref (mah a)) rfl dX1_cell_10 ?_
    refine lv_bipush (v := 24) hx hb dX1_cell_13 (by decide) ?_
    refine lv_iload_n hx hb dX1_cell_15 rfl (lv_at hl 1 rfl) ?_
    refine lv_imul hx hb dX1_cell_16 ?_
    refine lv_iload_n hx hb dX1_cell_17 rfl (lv_at hl 2 rfl) ?_
    refine lv_iadd hx hb dX1_cell_18 ?_
    refine m_ldh hx hb hK hP hj5 dX1_cell_19 ?_
    refine lv_goto (tgt := 24) hx hb dX1_cell_20 (by decide) ?_
    exact W.iret (v := (mh S ((24 * p1) + p2))) hx hb hr (fun t ht hW => ⟨⟨(mh S ((24 * p1) + p2)), S, rfl, (by simp only [mF_cell, hw1, if_neg c3]), by rw [ht]; exact hP, va_K.moved hW.alike hK⟩, hS.F ht⟩) hS.2.2 dX1_cell_24
def mF_put (S : MS) (p1 p2 p3 : Int32) : MS := (let q1 := mF_has S p1 p2; (if q1.1 = 0 then q1.2 else (msh q1.2 ((24 * p1) + p2) (mF_cut p1 p3))))
theorem hdX1_put : yX1_put.cls = RX1 ∧ yX1_put.cls ≠ "java/lang/invoke/MethodHandle" ∧ yX1_put.cls ≠ "java/lang/invoke/VarHandle" ∧ (parseMethodDescriptor yX1_put.desc).map (fun d => d.parameters.length) = some 3 := by decide +kernel
set_option maxHeartbeats 4000000 in
set_option maxRecDepth 100000 in
theorem c_X1_put (l : Launch) (D : va_G) (a : MA) (hO : mOk a) (S : MS) (p1 p2 p3 : Int32) (hI : mI S) (h5_0 : vp_in p1 5) : Met l yX1_put wsX1_put ({ frames := 1, cells := 0, slots := 0, locals := 22 }) (va_Pc [.ref (ma a), .int p1, .int p2, .int p3] (mB D a S)) (mQv D a (mF_put S p1 p2 p3)) 0 0 (mA a) := by
  refine Met.ofW (cc := cX1_put) (maxL := 4) (ret := none) (by decide) rfl ?_
  intro p e s m args below meth c s₁ B hml hv
  obtain ⟨rfl, hP, hK⟩ := hv
  have hx := B.exec
  have hb := B.bytes
  have hr := B.returns
  have hts := atoms_spec (ws := wsX1_put) B.pre
  have hown : s.vm.findClass RX1 = some m.cls := findClass_of_methodNamed B.named
  have hlocks := B.notSynchronized
  have hS : va_S (mA a) s.heap s.heap [] := va_S.rf
  have hP : va_P D vwCl (mW a S) s.heap := hP
  have hu : ∀ w ∈ wsX10, w ∈ wsX1_put := fun _ h => List.mem_cons_of_mem _ (List.mem_append_right _ h)
  have hf13 := hts (.fieldLink RX1 13 "FlightBooksModel" "cells" "[I") (by decide +kernel)
  have hl := lv_entry ([.ref (ma a), .int p1, .int p2, .int p3]) (n := 4) (Nat.le_of_ble_eq_true rfl)
  rw [lg_entry_eq]
  generalize (lg_sl ([.ref (ma a), .int p1, .int p2, .int p3]) ++ List.replicate (4 - (lg_sl ([.ref (ma a), .int p1, .int p2, .int p3])).length) Slot.unset).toArray = ls at hl ⊢
  have hl : lv_has ls 4 [(0, .ref (ma a)), (1, .int p1), (2, .int p2), (3, .int p3)] := hl
  refine lv_aload_n hx hb dX1_put_0 rfl (lv_at hl 0 rfl) ?_
  refine lv_iload_n hx hb dX1_put_1 rfl (lv_at hl 1 rfl) ?_
  refine lv_iload_n hx hb dX1_put_2 rfl (lv_at hl 2 rfl) ?_
  refine va_calli (va_runV (As := [.int p1, .int p2]) (rest := []) ⟨hx, hb, hml, hown, hts⟩ (c_X1_has l D a hO S p1 p2 h5_0) (cwV 2 hts gX1_put_X1_has rfl rfl rfl hdX1_has ⟨Nat.le_of_ble_eq_true rfl, Nat.le_of_ble_eq_true rfl⟩) (mPreV hK hP) rfl rfl hl.1 rfl (lv_room (Nat.le_of_ble_eq_true rfl)) dX1_put_3 ⟨Nat.zero_le _, Nat.zero_le _⟩) hS (fun q _ h => h) (fun q h => h) (fun r1 S1 t H1 locs ht hvm hw1 hB hz1 hk1 hS => ?_)
  obtain ⟨hP, -⟩ := hB
  rw [ht] at hP
  refine lv_if_eq (tgt := 25) hx hb dX1_put_6 (by decide) (fun c3 => ?_) (fun c3 => ?_)
  · exact W.vret hx hb hr (fun t ht hW => ⟨⟨S1, rfl, (by simp only [mF_put, hw1, if_pos c3]), by rw [ht]; exact hP, va_K.moved hW.alike hK⟩, hS.F ht⟩) hS.2.2 dX1_put_25
  · obtain ⟨hn5, hs5⟩ := me_has hI h5_0 hw1 c3
    subst hs5
    have hj5 := me_ix h5_0 hn5
    refine lv_aload_n hx hb dX1_put_9 rfl (lv_at hl 0 rfl) ?_
    refine m_get hx hb hts hu hown hK hP 2 (by decide) hf13 rfl (v := .ref (mah a)) rfl dX1_put_10 ?_
    refine lv_bipush (v := 24) hx hb dX1_put_13 (by decide) ?_
    refine lv_iload_n hx hb dX1_put_15 rfl (lv_at hl 1 rfl) ?_
    refine lv_imul hx hb dX1_put_16 ?_
    refine lv_iload_n hx hb dX1_put_17 rfl (lv_at hl 2 rfl) ?_
    refine lv_iadd hx hb dX1_put_18 ?_
    refine lv_iload_n hx hb dX1_put_19 rfl (lv_at hl 1 rfl) ?_
    refine lv_iload_n hx hb dX1_put_20 rfl (lv_at hl 3 rfl) ?_
    refine va_calli (va_runS (As := [.int p1, .int p3]) (rest := [.int ((24 * p1) + p2), .ref (mah a)]) ⟨hx, hb, hml, hown, hts⟩ (c_X1_cut l p1 p3) (va_cwS 2 hts gX1_put_X1_cut rfl rfl rfl hdX1_cut ⟨Nat.le_of_ble_eq_true rfl, Nat.le_of_ble_eq_true rfl⟩) pPreS rfl rfl hl.1 rfl (lv_room (Nat.le_of_ble_eq_true rfl)) dX1_put_21 ⟨Nat.zero_le _, Nat.zero_le _⟩) hS (fun q _ h => h.elim) (fun q h => h.elim) (fun r6 u6 t H1 locs ht hvm hw6 hB hz1 hk1 hS => ?_)
    have hP := P_kept hP hk1
    refine m_sth hx hb hO hK hP hS hj5 dX1_put_24 (fun H locs hP hS => ?_)
    exact W.vret hx hb hr (fun t ht hW => ⟨⟨(msh S ((24 * p1) + p2) r6), rfl, (by simp only [mF_put, hw1, if_neg c3, hw6]), by rw [ht]; exact hP, va_K.moved hW.alike hK⟩, hS.F ht⟩) hS.2.2 dX1_put_25
def mF_more (S : MS) (p1 p2 p3 : Int32) : MS := (let q1 := mF_has S p1 p2; (if q1.1 = 0 then q1.2 else (msh q1.2 ((24 * p1) + p2) (mF_cut p1 ((mh q1.2 ((24 * p1) + p2)) + p3)))))
theorem hdX1_more : yX1_more.cls = RX1 ∧ yX1_more.cls ≠ "java/lang/invoke/MethodHandle" ∧ yX1_more.cls ≠ "java/lang/invoke/VarHandle" ∧ (parseMethodDescriptor yX1_more.desc).map (fun d => d.parameters.length) = some 3 := by decide +kernel
set_option maxHeartbeats 4000000 in
set_option maxRecDepth 100000 in
theorem c_X1_more (l : Launch) (D : va_G) (a : MA) (hO : mOk a) (S : MS) (p1 p2 p3 : Int32) (hI : mI S) (h5_0 : vp_in p1 5) : Met l yX1_more wsX1_more ({ frames := 1, cells := 0, slots := 0, locals := 22 }) (va_Pc [.ref (ma a), .int p1, .int p2, .int p3] (mB D a S)) (mQv D a (mF_more S p1 p2 p3)) 0 0 (mA a) := by
  refine Met.ofW (cc := cX1_more) (maxL := 4) (ret := none) (by decide) rfl ?_
  intro p e s m args below meth c s₁ B hml hv
  obtain ⟨rfl, hP, hK⟩ := hv
  have hx := B.exec
  have hb := B.bytes
  have hr := B.returns
  have hts := atoms_spec (ws := wsX1_more) B.pre
  have hown : s.vm.findClass RX1 = some m.cls := findClass_of_methodNamed B.named
  have hlocks := B.notSynchronized
  have hS : va_S (mA a) s.heap s.heap [] := va_S.rf
  have hP : va_P D vwCl (mW a S) s.heap := hP
  have hu : ∀ w ∈ wsX10, w ∈ wsX1_more := fun _ h => List.mem_cons_of_mem _ (List.mem_append_right _ h)
  have hf13 := hts (.fieldLink RX1 13 "FlightBooksModel" "cells" "[I") (by decide +kernel)
  have hl := lv_entry ([.ref (ma a), .int p1, .int p2, .int p3]) (n := 4) (Nat.le_of_ble_eq_true rfl)
  rw [lg_entry_eq]
  generalize (lg_sl ([.ref (ma a), .int p1, .int p2, .int p3]) ++ List.replicate (4 - (lg_sl ([.ref (ma a), .int p1, .int p2, .int p3])).length) Slot.unset).toArray = ls at hl ⊢
  have hl : lv_has ls 4 [(0, .ref (ma a)), (1, .int p1), (2, .int p2), (3, .int p3)] := hl
  refine lv_aload_n hx hb dX1_more_0 rfl (lv_at hl 0 rfl) ?_
  refine lv_iload_n hx hb dX1_more_1 rfl (lv_at hl 1 rfl) ?_
  refine lv_iload_n hx hb dX1_more_2 rfl (lv_at hl 2 rfl) ?_
  refine va_calli (va_runV (As := [.int p1, .int p2]) (rest := []) ⟨hx, hb, hml, hown, hts⟩ (c_X1_has l D a hO S p1 p2 h5_0) (cwV 2 hts gX1_more_X1_has rfl rfl rfl hdX1_has ⟨Nat.le_of_ble_eq_true rfl, Nat.le_of_ble_eq_true rfl⟩) (mPreV hK hP) rfl rfl hl.1 rfl (lv_room (Nat.le_of_ble_eq_true rfl)) dX1_more_3 ⟨Nat.zero_le _, Nat.zero_le _⟩) hS (fun q _ h => h) (fun q h => h) (fun r1 S1 t H1 locs ht hvm hw1 hB hz1 hk1 hS => ?_)
  obtain ⟨hP, -⟩ := hB
  rw [ht] at hP
  refine lv_if_eq (tgt := 37) hx hb dX1_more_6 (by decide) (fun c3 => ?_) (fun c3 => ?_)
  · exact W.vret hx hb hr (fun t ht hW => ⟨⟨S1, rfl, (by simp only [mF_more, hw1, if_pos c3]), by rw [ht]; exact hP, va_K.moved hW.alike hK⟩, hS.F ht⟩) hS.2.2 dX1_more_37
  · obtain ⟨hn5, hs5⟩ := me_has hI h5_0 hw1 c3
    subst hs5
    have hj5 := me_ix h5_0 hn5
    refine lv_aload_n hx hb dX1_more_9 rfl (lv_at hl 0 rfl) ?_
    refine m_get hx hb hts hu hown hK hP 2 (by decide) hf13 rfl (v := .ref (mah a)) rfl dX1_more_10 ?_
    refine lv_bipush (v := 24) hx hb dX1_more_13 (by decide) ?_
    refine lv_iload_n hx hb dX1_more_15 rfl (lv_at hl 1 rfl) ?_
    refine lv_imul hx hb dX1_more_16 ?_
    refine lv_iload_n hx hb dX1_more_17 rfl (lv_at hl 2 rfl) ?_
    refine lv_iadd hx hb dX1_more_18 ?_
    refine lv_iload_n hx hb dX1_more_19 rfl (lv_at hl 1 rfl) ?_
    refine lv_aload_n hx hb dX1_more_20 rfl (lv_at hl 0 rfl) ?_
    refine m_get hx hb hts hu hown hK hP 2 (by decide) hf13 rfl (v := .ref (mah a)) rfl dX1_more_21 ?_
    refine lv_bipush (v := 24) hx hb dX1_more_24 (by decide) ?_
    refine lv_iload_n hx hb dX1_more_26 rfl (lv_at hl 1 rfl) ?_
    refine lv_imul hx hb dX1_more_27 ?_
    refine lv_iload_n hx hb dX1_more_28 rfl (lv_at hl 2 rfl) ?_
    refine lv_iadd hx hb dX1_more_29 ?_
    refine m_ldh hx hb hK hP hj5 dX1_more_30 ?_
    refine lv_iload_n hx hb dX1_more_31 rfl (lv_at hl 3 rfl) ?_
    refine lv_iadd hx hb dX1_more_32 ?_
    refine va_calli (va_runS (As := [.int p1, .int ((mh S ((24 * p1) + p2)) + p3)]) (rest := [.int ((24 * p1) + p2), .ref (mah a)]) ⟨hx, hb, hml, hown, hts⟩ (c_X1_cut l p1 ((mh S ((24 * p1) + p2)) + p3)) (va_cwS 2 hts gX1_more_X1_cut rfl rfl rfl hdX1_cut ⟨Nat.le_of_ble_eq_true rfl, Nat.le_of_ble_eq_true rfl⟩) pPreS rfl rfl hl.1 rfl (lv_room (Nat.le_of_ble_eq_true rfl)) dX1_more_33 ⟨Nat.zero_le _, Nat.zero_le _⟩) hS (fun q _ h => h.elim) (fun q h => h.elim) (fun r6 u6 t H1 locs ht hvm hw6 hB hz1 hk1 hS => ?_)
    have hP := P_kept hP hk1
    refine m_sth hx hb hO hK hP hS hj5 dX1_more_36 (fun H locs hP hS => ?_)
    exact W.vret hx hb hr (fun t ht hW => ⟨⟨(msh S ((24 * p1) + p2) r6), rfl, (by simp only [mF_more, hw1, if_neg c3, hw6]), by rw [ht]; exact hP, va_K.moved hW.alike hK⟩, hS.F ht⟩) hS.2.2 dX1_more_37
def mF_answer (S : MS) (p1 : Int32) : Int32 × MS := (if (mFa S) = 0 then (p1, S) else ((mFa (msLa (msFs S ((mFs S) + 1)) (mFa (msFs S ((mFs S) + 1))))), (msLa (msFs S ((mFs S) + 1)) (mFa (msFs S ((mFs S) + 1))))))
theorem hdX1_answer : yX1_answer.cls = RX1 ∧ yX1_answer.cls ≠ "java/lang/invoke/MethodHandle" ∧ yX1_answer.cls ≠ "java/lang/invoke/VarHandle" ∧ (parseMethodDescriptor yX1_answer.desc).map (fun d => d.parameters.length) = some 1 := by decide +kernel
set_option maxHeartbeats 4000000 in
set_option maxRecDepth 100000 in
theorem c_X1_answer (l : Launch) (D : va_G) (a : MA) (hO : mOk a) (S : MS) (p1 : Int32) : Met l yX1_answer wsX1_answer ({ frames := 0, cells := 0, slots := 0, locals := 0 }) (va_Pc [.ref (ma a), .int p1] (mB D a S)) (mQi D a (mF_answer S p1)) 0 0 (mA a) := by
  refine Met.ofW (cc := cX1_answer) (maxL := 2) (ret := (some .int)) (by decide) rfl ?_
  intro p e s m args below meth c s₁ B hml hv
  obtain ⟨rfl, hP, hK⟩ := hv
  have hx := B.exec
  have hb := B.bytes
  have hr := B.returns
  have hts := atoms_spec (ws := wsX1_answer) B.pre
  have hown : s.vm.findClass RX1 = some m.cls := findClass_of_methodNamed B.named
  have hlocks := B.notSynchronized
  have hS : va_S (mA a) s.heap s.heap [] := va_S.rf
  have hP : va_P D vwCl (mW a S) s.heap := hP
  have hu : ∀ w ∈ wsX10, w ∈ wsX1_answer := fun _ h => List.mem_cons_of_mem _ (List.mem_append_right _ h)
  have hf23 := hts (.fieldLink RX1 23 "FlightBooksModel" "fault" "I") (by decide +kernel)
  have hf40 := hts (.fieldLink RX1 40 "FlightBooksModel" "faults" "I") (by decide +kernel)
  have hf43 := hts (.fieldLink RX1 43 "FlightBooksModel" "latest" "I") (by decide +kernel)
  have hl := lv_entry ([.ref (ma a), .int p1]) (n := 2) (Nat.le_of_ble_eq_true rfl)
  rw [lg_entry_eq]
  generalize (lg_sl ([.ref (ma a), .int p1]) ++ List.replicate (2 - (lg_sl ([.ref (ma a), .int p1])).length) Slot.unset).toArray = ls at hl ⊢
  have hl : lv_has ls 2 [(0, .ref (ma a)), (1, .int p1)] := hl
  refine lv_aload_n hx hb dX1_answer_0 rfl (lv_at hl 0 rfl) ?_
  refine m_get hx hb hts hu hown hK hP 11 (by decide) hf23 rfl (v := .int (mFa S)) rfl dX1_answer_1 ?_
  refine lv_if_ne (tgt := 9) hx hb dX1_answer_4 (by decide) (fun c1 => ?_) (fun c1 => ?_)
  · refine lv_aload_n hx hb dX1_answer_9 rfl (lv_at hl 0 rfl) ?_
    refine lv_dup hx hb dX1_answer_10 rfl ?_
    refine m_get hx hb hts hu hown hK hP 9 (by decide) hf40 rfl (v := .int (mFs S)) rfl dX1_answer_11 ?_
    refine lv_iconst (v := 1) hx hb dX1_answer_14 (by decide) ?_
    refine lv_iadd hx hb dX1_answer_15 ?_
    refine m_puti hx hb hts hu hown hO hK hP hS 9 (by decide) hf40 rfl rfl (by decide +kernel) (msFs S) (fun _ => rfl) (fun _ => rfl) dX1_answer_16 (fun H locs hP hS => ?_)
    refine lv_aload_n hx hb dX1_answer_19 rfl (lv_at hl 0 rfl) ?_
    refine lv_aload_n hx hb dX1_answer_20 rfl (lv_at hl 0 rfl) ?_
    refine m_get hx hb hts hu hown hK hP 11 (by decide) hf23 rfl (v := .int (mFa (msFs S ((mFs S) + 1)))) rfl dX1_answer_21 ?_
    refine m_puti hx hb hts hu hown hO hK hP hS 10 (by decide) hf43 rfl rfl (by decide +kernel) (msLa (msFs S ((mFs S) + 1))) (fun _ => rfl) (fun _ => rfl) dX1_answer_24 (fun H locs hP hS => ?_)
    refine lv_aload_n hx hb dX1_answer_27 rfl (lv_at hl 0 rfl) ?_
    refine m_get hx hb hts hu hown hK hP 11 (by decide) hf23 rfl (v := .int (mFa (msLa (msFs S ((mFs S) + 1)) (mFa (msFs S ((mFs S) + 1)))))) rfl dX1_answer_28 ?_
    exact W.iret (v := (mFa (msLa (msFs S ((mFs S) + 1)) (mFa (msFs S ((mFs S) + 1)))))) hx hb hr (fun t ht hW => ⟨⟨(mFa (msLa (msFs S ((mFs S) + 1)) (mFa (msFs S ((mFs S) + 1))))), (msLa (msFs S ((mFs S) + 1)) (mFa (msFs S ((mFs S) + 1)))), rfl, (by simp only [mF_answer, if_neg c1]), by rw [ht]; exact hP, va_K.moved hW.alike hK⟩, hS.F ht⟩) hS.2.2 dX1_answer_31
  · refine lv_iload_n hx hb dX1_answer_7 rfl (lv_at hl 1 rfl) ?_
    exact W.iret (v := p1) hx hb hr (fun t ht hW => ⟨⟨p1, S, rfl, (by simp only [mF_answer, if_pos c1]), by rw [ht]; exact hP, va_K.moved hW.alike hK⟩, hS.F ht⟩) hS.2.2 dX1_answer_8
theorem mI_cell2 {S : MS} (b i : Int32) (hI : mI S) : mI (mF_cell S b i).2 := by
  simp only [mF_cell]
  have := mI_has2 b i hI
  split <;> exact this
theorem mI_put2 {S : MS} (b i v : Int32) (hI : mI S) : mI (mF_put S b i v) := by
  simp only [mF_put]
  have := mI_has2 b i hI
  split <;> exact this
theorem mI_more2 {S : MS} (b i v : Int32) (hI : mI S) : mI (mF_more S b i v) := by
  simp only [mF_more]
  have := mI_has2 b i hI
  split <;> exact this
theorem mI_cell {S S1 : MS} {b i r : Int32} (hI : mI S) (h : mF_cell S b i = (r, S1)) : mI S1 := by
  have e : S1 = (mF_cell S b i).2 := by rw [h]
  rw [e]; exact mI_cell2 b i hI
theorem mI_put {S S1 : MS} {b i v : Int32} (hI : mI S) (h : mF_put S b i v = S1) : mI S1 := by
  rw [← h]; exact mI_put2 b i v hI
theorem mI_more {S S1 : MS} {b i v : Int32} (hI : mI S) (h : mF_more S b i v = S1) : mI S1 := by
  rw [← h]; exact mI_more2 b i v hI
