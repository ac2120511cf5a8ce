/-- keep's loop -/
def mF_keepL (p1 : Int32) : Nat → Int32 → MS → MS
  | 0, _, S => S
  | n + 1, i, S => if 24 ≤ i then S else mF_keepL p1 n (i + 1) (msh S ((24 * p1) + i) 0)
def mF_keep (S : MS) (p1 p2 : Int32) : Int32 × MS := (if (mF_isBook p1) = 0 then ((-300000), S) else (if p2 ≤ 24 then (if 0 ≤ p2 then (0, mF_keepL p1 25 0 (msc S p1 p2)) else ((-3), S)) else ((-2), S)))
theorem hdX1_keep : yX1_keep.cls = RX1 ∧ yX1_keep.cls ≠ "java/lang/invoke/MethodHandle" ∧ yX1_keep.cls ≠ "java/lang/invoke/VarHandle" ∧ (parseMethodDescriptor yX1_keep.desc).map (fun d => d.parameters.length) = some 2 := by decide +kernel
set_option maxHeartbeats 4000000 in
set_option maxRecDepth 100000 in
theorem c_X1_keep (l : Launch) (D : va_G) (a : MA) (hO : mOk a) (S : MS) (p1 p2 : Int32) : Met l yX1_keep wsX1_keep ({ frames := 1, cells := 0, slots := 0, locals := 20 }) (va_Pc [.ref (ma a), .int p1, .int p2] (mB D a S)) (mQi D a (mF_keep S p1 p2)) 0 0 (mA a) := by
  refine Met.ofW (cc := cX1_keep) (maxL := 4) (ret := (some .int)) (by decide) rfl ?_
  intro p e s m args below meth c s₁ B hml hv
  obtain ⟨rfl, hP, hK⟩ := hv
  have hx := B.exec
  have hb := B.bytes
  have hr := B.returns
  have hts := atoms_spec (ws := wsX1_keep) B.pre
  have hown : s.vm.findClass RX1 = some m.cls := findClass_of_methodNamed B.named
  have hlocks := B.notSynchronized
  have hS : va_S (mA a) s.heap s.heap [] := va_S.rf
  have hP : va_P D vwCl (mW a S) s.heap := hP
  have hu : ∀ w ∈ wsX10, w ∈ wsX1_keep := fun _ h => List.mem_cons_of_mem _ (List.mem_append_right _ h)
  have hf7 := hts (.fieldLink RX1 7 "FlightBooksModel" "many" "[I") (by decide +kernel)
  have hk50 := hts (.constant RX1 50 (-300000)) (by decide +kernel)
  have hf13 := hts (.fieldLink RX1 13 "FlightBooksModel" "cells" "[I") (by decide +kernel)
  have loop : ∀ (n k : Nat) (i : Int32) (Z : MS) (H : Heap) (locs : List Loc) (ls : Array Slot), k ≤ 24 → 25 ≤ k + n → i = nI k → va_P D vwCl (mW a Z) H → va_S (mA a) s.heap H locs → lv_has ls 4 [(3, .int i), (0, .ref (ma a)), (1, .int p1), (2, .int p2)] → mF_keep S p1 p2 = (0, mF_keepL p1 n i Z) → vp_in p1 5 → W p l e (headSpec wsX1_keep ({ frames := 1, cells := 0, slots := 0, locals := 20 })).room s m [.ref (ma a), .int p1, .int p2].toArray below meth c H locs 0 0 (MQ below (mQi D a (mF_keep S p1 p2)) [.ref (ma a), .int p1, .int p2].toArray s 0 0 (mA a)) (F0 m 35 ls []) := by
    intro n
    induction n with
    | zero =>
      intro k i Z H locs ls h1 h2
      exact absurd h2 (by omega)
    | succ n ih =>
      intro k i Z H locs ls hk hkn ei hP hS hl hF h5
      refine lv_iload_n hx hb dX1_keep_35 rfl (lv_at hl 0 rfl) ?_
      refine lv_bipush (v := 24) hx hb dX1_keep_36 (by decide) ?_
      refine lv_icmp_ge (tgt := 59) hx hb dX1_keep_38 (by decide) (fun c7 => ?_) (fun c7 => ?_)
      · refine lv_iconst (v := 0) hx hb dX1_keep_59 (by decide) ?_
        exact W.iret (v := 0) hx hb hr (fun t ht hW => ⟨⟨0, Z, rfl, (hF.trans (by simp only [mF_keepL, if_pos c7])), by rw [ht]; exact hP, va_K.moved hW.alike hK⟩, hS.F ht⟩) hS.2.2 dX1_keep_60
      · obtain ⟨hin, hkk⟩ := xl_in (N := 24) (by decide) hk ei (by decide) c7
        have hix := me_ix h5 hin
        refine lv_aload_n hx hb dX1_keep_41 rfl (lv_at hl 1 rfl) ?_
        refine m_get hx hb hts hu hown hK hP 2 (by decide) hf13 rfl (v := .ref (mah a)) rfl dX1_keep_42 ?_
        refine lv_bipush (v := 24) hx hb dX1_keep_45 (by decide) ?_
        refine lv_iload_n hx hb dX1_keep_47 rfl (lv_at hl 2 rfl) ?_
        refine lv_imul hx hb dX1_keep_48 ?_
        refine lv_iload_n hx hb dX1_keep_49 rfl (lv_at hl 0 rfl) ?_
        refine lv_iadd hx hb dX1_keep_50 ?_
        refine lv_iconst (v := 0) hx hb dX1_keep_51 (by decide) ?_
        refine m_sth hx hb hO hK hP hS hix dX1_keep_52 (fun H locs hP hS => ?_)
        refine lv_iinc (v := (i + 1)) (lv' := [(3, .int (i + 1)), (0, .ref (ma a)), (1, .int p1), (2, .int p2)]) hx hb dX1_keep_53 hl (k := 0) rfl rfl (by decide) rfl (fun ls hl => ?_)
        refine lv_goto (tgt := 35) hx hb dX1_keep_56 (by decide) ?_
        exact ih (k + 1) (i + 1) (msh Z ((24 * p1) + i) 0) _ _ ls hkk (by omega) (by rw [ei]; exact nI_1 k) hP hS (lv_sub hl [0, 1, 2, 3] rfl) (hF.trans (by simp only [mF_keepL, if_neg c7])) h5
  have hl := lv_entry ([.ref (ma a), .int p1, .int p2]) (n := 4) (Nat.le_of_ble_eq_true rfl)
  rw [lg_entry_eq]
  generalize (lg_sl ([.ref (ma a), .int p1, .int p2]) ++ List.replicate (4 - (lg_sl ([.ref (ma a), .int p1, .int p2])).length) Slot.unset).toArray = ls at hl ⊢
  have hl : lv_has ls 4 [(0, .ref (ma a)), (1, .int p1), (2, .int p2)] := hl
  refine lv_iload_n hx hb dX1_keep_0 rfl (lv_at hl 1 rfl) ?_
  refine va_calli (va_runS (As := [.int p1]) (rest := []) ⟨hx, hb, hml, hown, hts⟩ (c_X1_isBook l p1) (va_cwS 1 hts gX1_keep_X1_isBook rfl rfl rfl hdX1_isBook ⟨Nat.le_of_ble_eq_true rfl, Nat.le_of_ble_eq_true rfl⟩) pPreS rfl rfl hl.1 rfl (lv_room (Nat.le_of_ble_eq_true rfl)) dX1_keep_1 ⟨Nat.zero_le _, Nat.zero_le _⟩) hS (fun q _ h => h.elim) (fun q h => h.elim) (fun r1 u1 t H1 locs ht hvm hw1 hB hz1 hk1 hS => ?_)
  have hP := P_kept hP hk1
  refine lv_if_ne (tgt := 10) hx hb dX1_keep_4 (by decide) (fun c2 => ?_) (fun c2 => ?_)
  · have hn3 := me_book hw1 c2
    refine lv_iload_n hx hb dX1_keep_10 rfl (lv_at hl 2 rfl) ?_
    refine lv_bipush (v := 24) hx hb dX1_keep_11 (by decide) ?_
    refine lv_icmp_le (tgt := 19) hx hb dX1_keep_13 (by decide) (fun c4 => ?_) (fun c4 => ?_)
    · refine lv_iload_n hx hb dX1_keep_19 rfl (lv_at hl 2 rfl) ?_
      refine lv_if_ge (tgt := 26) hx hb dX1_keep_20 (by decide) (fun c5 => ?_) (fun c5 => ?_)
      · refine lv_aload_n hx hb dX1_keep_26 rfl (lv_at hl 0 rfl) ?_
        refine m_get hx hb hts hu hown hK hP 1 (by decide) hf7 rfl (v := .ref (mac a)) rfl dX1_keep_27 ?_
        refine lv_iload_n hx hb dX1_keep_30 rfl (lv_at hl 1 rfl) ?_
        refine lv_iload_n hx hb dX1_keep_31 rfl (lv_at hl 2 rfl) ?_
        refine m_stc hx hb hO hK hP hS hn3 dX1_keep_32 (fun H locs hP hS => ?_)
        refine lv_iconst (v := 0) hx hb dX1_keep_33 (by decide) ?_
        refine lv_istore_n (lv' := [(3, .int 0), (0, .ref (ma a)), (1, .int p1), (2, .int p2)]) hx hb dX1_keep_34 rfl hl (by decide) rfl (fun ls hl => ?_)
        exact loop 25 0 0 (msc S p1 p2) _ _ ls (by decide) (by decide) nI_0.symm hP hS (lv_sub hl [0, 1, 2, 3] rfl) (by simp only [mF_keep, hw1, if_neg c2, if_pos c4, if_pos c5]) hn3
      · refine lv_bipush (v := (-3)) hx hb dX1_keep_23 (by decide) ?_
        exact W.iret (v := (-3)) hx hb hr (fun t ht hW => ⟨⟨(-3), S, rfl, (by simp only [mF_keep, hw1, if_neg c2, if_pos c4, if_neg c5]), by rw [ht]; exact hP, va_K.moved hW.alike hK⟩, hS.F ht⟩) hS.2.2 dX1_keep_25
    · refine lv_bipush (v := (-2)) hx hb dX1_keep_16 (by decide) ?_
      exact W.iret (v := (-2)) hx hb hr (fun t ht hW => ⟨⟨(-2), S, rfl, (by simp only [mF_keep, hw1, if_neg c2, if_neg c4]), by rw [ht]; exact hP, va_K.moved hW.alike hK⟩, hS.F ht⟩) hS.2.2 dX1_keep_18
  · refine lv_ldc (v := (-300000)) hx hb hown hk50 dX1_keep_7 ?_
    exact W.iret (v := (-300000)) hx hb hr (fun t ht hW => ⟨⟨(-300000), S, rfl, (by simp only [mF_keep, hw1, if_pos c2]), by rw [ht]; exact hP, va_K.moved hW.alike hK⟩, hS.F ht⟩) hS.2.2 dX1_keep_9
/-- tally's loop -/
def mF_tallyL (S : MS) (p1 : Int32) : Nat → Int32 → Int32 → Int32
  | 0, _, z => z
  | n + 1, i, z => if mc S p1 ≤ i then z else mF_tallyL S p1 n (i + 1) (z + mh S ((24 * p1) + i))
def mF_tally (S : MS) (p1 : Int32) : Int32 × MS := (if (mF_isBook p1) = 0 then ((-300000), S) else (if 0 ≤ (mc S p1) then (mF_answer (msFa S 0) (mF_tallyL (msFa S 0) p1 25 0 0)) else (mF_answer (msFa S ((-100000) - p1)) (mF_tallyL (msFa S ((-100000) - p1)) p1 25 0 0))))
theorem hdX1_tally : yX1_tally.cls = RX1 ∧ yX1_tally.cls ≠ "java/lang/invoke/MethodHandle" ∧ yX1_tally.cls ≠ "java/lang/invoke/VarHandle" ∧ (parseMethodDescriptor yX1_tally.desc).map (fun d => d.parameters.length) = some 1 := by decide +kernel
set_option maxHeartbeats 4000000 in
set_option maxRecDepth 100000 in
theorem c_X1_tally (l : Launch) (D : va_G) (a : MA) (hO : mOk a) (S : MS) (p1 : Int32) (hI : mI S) : Met l yX1_tally wsX1_tally ({ frames := 1, cells := 0, slots := 0, locals := 21 }) (va_Pc [.ref (ma a), .int p1] (mB D a S)) (mQi D a (mF_tally S p1)) 0 0 (mA a) := by
  refine Met.ofW (cc := cX1_tally) (maxL := 4) (ret := (some .int)) (by decide) rfl ?_
  intro p e s m args below meth c s₁ B hml hv
  obtain ⟨rfl, hP, hK⟩ := hv
  have hx := B.exec
  have hb := B.bytes
  have hr := B.returns
  have hts := atoms_spec (ws := wsX1_tally) B.pre
  have hown : s.vm.findClass RX1 = some m.cls := findClass_of_methodNamed B.named
  have hlocks := B.notSynchronized
  have hS : va_S (mA a) s.heap s.heap [] := va_S.rf
  have hP : va_P D vwCl (mW a S) s.heap := hP
  have hu : ∀ w ∈ wsX10, w ∈ wsX1_tally := fun _ h => List.mem_cons_of_mem _ (List.mem_append_right _ h)
  have hf7 := hts (.fieldLink RX1 7 "FlightBooksModel" "many" "[I") (by decide +kernel)
  have hf23 := hts (.fieldLink RX1 23 "FlightBooksModel" "fault" "I") (by decide +kernel)
  have hk26 := hts (.constant RX1 26 (-100000)) (by decide +kernel)
  have hk50 := hts (.constant RX1 50 (-300000)) (by decide +kernel)
  have hf13 := hts (.fieldLink RX1 13 "FlightBooksModel" "cells" "[I") (by decide +kernel)
  have loop : ∀ (n k : Nat) (i z : Int32) (Z : MS) (H : Heap) (locs : List Loc) (ls : Array Slot), k ≤ 24 → 25 ≤ k + n → i = nI k → va_P D vwCl (mW a Z) H → va_S (mA a) s.heap H locs → lv_has ls 4 [(3, .int i), (2, .int z), (0, .ref (ma a)), (1, .int p1)] → mF_tally S p1 = mF_answer Z (mF_tallyL Z p1 n i z) → vp_in p1 5 → mI Z → W p l e (headSpec wsX1_tally ({ frames := 1, cells := 0, slots := 0, locals := 21 })).room s m [.ref (ma a), .int p1].toArray below meth c H locs 0 0 (MQ below (mQi D a (mF_tally S p1)) [.ref (ma a), .int p1].toArray s 0 0 (mA a)) (F0 m 35 ls []) := by
    intro n
    induction n with
    | zero =>
      intro k i z Z H locs ls h1 h2
      exact absurd h2 (by omega)
    | succ n ih =>
      intro k i z Z H locs ls hk hkn ei hP hS hl hF h5 hI
      refine lv_iload_n hx hb dX1_tally_35 rfl (lv_at hl 0 rfl) ?_
      refine lv_aload_n hx hb dX1_tally_36 rfl (lv_at hl 2 rfl) ?_
      refine m_get hx hb hts hu hown hK hP 1 (by decide) hf7 rfl (v := .ref (mac a)) rfl dX1_tally_37 ?_
      refine lv_iload_n hx hb dX1_tally_40 rfl (lv_at hl 3 rfl) ?_
      refine m_ldc hx hb hK hP h5 dX1_tally_41 ?_
      refine lv_icmp_ge (tgt := 65) hx hb dX1_tally_42 (by decide) (fun c6 => ?_) (fun c6 => ?_)
      · refine lv_aload_n hx hb dX1_tally_65 rfl (lv_at hl 2 rfl) ?_
        refine lv_iload_n hx hb dX1_tally_66 rfl (lv_at hl 1 rfl) ?_
        refine va_calli (va_runV (As := [.int z]) (rest := []) ⟨hx, hb, hml, hown, hts⟩ (c_X1_answer l D a hO Z z) (cwV 1 hts gX1_tally_X1_answer rfl rfl rfl hdX1_answer ⟨Nat.le_of_ble_eq_true rfl, Nat.le_of_ble_eq_true rfl⟩) (mPreV hK hP) rfl rfl hl.1 rfl (lv_room (Nat.le_of_ble_eq_true rfl)) dX1_tally_67 ⟨Nat.zero_le _, Nat.zero_le _⟩) hS (fun q _ h => h) (fun q h => h) (fun r7 S7 t H1 locs ht hvm hw7 hB hz1 hk1 hS => ?_)
        obtain ⟨hP, -⟩ := hB
        rw [ht] at hP
        exact W.iret (v := r7) hx hb hr (fun t ht hW => ⟨⟨r7, S7, rfl, (hF.trans (by simp only [mF_tallyL, if_pos c6, hw7])), by rw [ht]; exact hP, va_K.moved hW.alike hK⟩, hS.F ht⟩) hS.2.2 dX1_tally_70
      · obtain ⟨hin, hkk⟩ := xl_in (N := 24) (by decide) hk ei (hI.1 _ (vk_lt h5)).2 c6
        have hix := me_ix h5 hin
        refine lv_iload_n hx hb dX1_tally_45 rfl (lv_at hl 1 rfl) ?_
        refine lv_aload_n hx hb dX1_tally_46 rfl (lv_at hl 2 rfl) ?_
        refine m_get hx hb hts hu hown hK hP 2 (by decide) hf13 rfl (v := .ref (mah a)) rfl dX1_tally_47 ?_
        refine lv_bipush (v := 24) hx hb dX1_tally_50 (by decide) ?_
        refine lv_iload_n hx hb dX1_tally_52 rfl (lv_at hl 3 rfl) ?_
        refine lv_imul hx hb dX1_tally_53 ?_
        refine lv_iload_n hx hb dX1_tally_54 rfl (lv_at hl 0 rfl) ?_
        refine lv_iadd hx hb dX1_tally_55 ?_
        refine m_ldh hx hb hK hP hix dX1_tally_56 ?_
        refine lv_iadd hx hb dX1_tally_57 ?_
        refine lv_istore_n (lv' := [(2, .int (z + (mh Z ((24 * p1) + i)))), (3, .int i), (0, .ref (ma a)), (1, .int p1)]) hx hb dX1_tally_58 rfl hl (by decide) rfl (fun ls hl => ?_)
        refine lv_iinc (v := (i + 1)) (lv' := [(3, .int (i + 1)), (2, .int (z + (mh Z ((24 * p1) + i)))), (0, .ref (ma a)), (1, .int p1)]) hx hb dX1_tally_59 hl (k := 1) rfl rfl (by decide) rfl (fun ls hl => ?_)
        refine lv_goto (tgt := 35) hx hb dX1_tally_62 (by decide) ?_
        exact ih (k + 1) (i + 1) (z + (mh Z ((24 * p1) + i))) Z _ _ ls hkk (by omega) (by rw [ei]; exact nI_1 k) hP hS (lv_sub hl [0, 1, 2, 3] rfl) (hF.trans (by simp only [mF_tallyL, if_neg c6])) h5 hI
  have hl := lv_entry ([.ref (ma a), .int p1]) (n := 4) (Nat.le_of_ble_eq_true rfl)
  rw [lg_entry_eq]
  generalize (lg_sl ([.ref (ma a), .int p1]) ++ List.replicate (4 - (lg_sl ([.ref (ma a), .int p1])).length) Slot.unset).toArray = ls at hl ⊢
  have hl : lv_has ls 4 [(0, .ref (ma a)), (1, .int p1)] := hl
  refine lv_iload_n hx hb dX1_tally_0 rfl (lv_at hl 1 rfl) ?_
  refine va_calli (va_runS (As := [.int p1]) (rest := []) ⟨hx, hb, hml, hown, hts⟩ (c_X1_isBook l p1) (va_cwS 1 hts gX1_tally_X1_isBook rfl rfl rfl hdX1_isBook ⟨Nat.le_of_ble_eq_true rfl, Nat.le_of_ble_eq_true rfl⟩) pPreS rfl rfl hl.1 rfl (lv_room (Nat.le_of_ble_eq_true rfl)) dX1_tally_1 ⟨Nat.zero_le _, Nat.zero_le _⟩) hS (fun q _ h => h.elim) (fun q h => h.elim) (fun r1 u1 t H1 locs ht hvm hw1 hB hz1 hk1 hS => ?_)
  have hP := P_kept hP hk1
  refine lv_if_ne (tgt := 10) hx hb dX1_tally_4 (by decide) (fun c2 => ?_) (fun c2 => ?_)
  · have hn3 := me_book hw1 c2
    refine lv_aload_n hx hb dX1_tally_10 rfl (lv_at hl 0 rfl) ?_
    refine lv_aload_n hx hb dX1_tally_11 rfl (lv_at hl 0 rfl) ?_
    refine m_get hx hb hts hu hown hK hP 1 (by decide) hf7 rfl (v := .ref (mac a)) rfl dX1_tally_12 ?_
    refine lv_iload_n hx hb dX1_tally_15 rfl (lv_at hl 1 rfl) ?_
    refine m_ldc hx hb hK hP hn3 dX1_tally_16 ?_
    refine lv_if_ge (tgt := 27) hx hb dX1_tally_17 (by decide) (fun c4 => ?_) (fun c4 => ?_)
    · refine lv_iconst (v := 0) hx hb dX1_tally_27 (by decide) ?_
      refine m_puti hx hb hts hu hown hO hK hP hS 11 (by decide) hf23 rfl rfl (by decide +kernel) (msFa S) (fun _ => rfl) (fun _ => rfl) dX1_tally_28 (fun H locs hP hS => ?_)
      have hI := mI_fault 0 hI
      refine lv_iconst (v := 0) hx hb dX1_tally_31 (by decide) ?_
      refine lv_istore_n (lv' := [(2, .int 0), (0, .ref (ma a)), (1, .int p1)]) hx hb dX1_tally_32 rfl hl (by decide) rfl (fun ls hl => ?_)
      refine lv_iconst (v := 0) hx hb dX1_tally_33 (by decide) ?_
      refine lv_istore_n (lv' := [(3, .int 0), (2, .int 0), (0, .ref (ma a)), (1, .int p1)]) hx hb dX1_tally_34 rfl hl (by decide) rfl (fun ls hl => ?_)
      exact loop 25 0 0 0 (msFa S 0) _ _ ls (by decide) (by decide) nI_0.symm hP hS (lv_sub hl [0, 1, 2, 3] rfl) (by simp only [mF_tally, hw1, if_neg c2, if_pos c4]) hn3 hI
    · refine lv_ldc (v := (-100000)) hx hb hown hk26 dX1_tally_20 ?_
      refine lv_iload_n hx hb dX1_tally_22 rfl (lv_at hl 1 rfl) ?_
      refine lv_isub hx hb dX1_tally_23 ?_
      refine lv_goto (tgt := 28) hx hb dX1_tally_24 (by decide) ?_
      refine m_puti hx hb hts hu hown hO hK hP hS 11 (by decide) hf23 rfl rfl (by decide +kernel) (msFa S) (fun _ => rfl) (fun _ => rfl) dX1_tally_28 (fun H locs hP hS => ?_)
      have hI := mI_fault ((-100000) - p1) hI
      refine lv_iconst (v := 0) hx hb dX1_tally_31 (by decide) ?_
      refine lv_istore_n (lv' := [(2, .int 0), (0, .ref (ma a)), (1, .int p1)]) hx hb dX1_tally_32 rfl hl (by decide) rfl (fun ls hl => ?_)
      refine lv_iconst (v := 0) hx hb dX1_tally_33 (by decide) ?_
      refine lv_istore_n (lv' := [(3, .int 0), (2, .int 0), (0, .ref (ma a)), (1, .int p1)]) hx hb dX1_tally_34 rfl hl (by decide) rfl (fun ls hl => ?_)
      exact loop 25 0 0 0 (msFa S ((-100000) - p1)) _ _ ls (by decide) (by decide) nI_0.symm hP hS (lv_sub hl [0, 1, 2, 3] rfl) (by simp only [mF_tally, hw1, if_neg c2, if_neg c4]) hn3 hI
  · refine lv_ldc (v := (-300000)) hx hb hown hk50 dX1_tally_7 ?_
    exact W.iret (v := (-300000)) hx hb hr (fun t ht hW => ⟨⟨(-300000), S, rfl, (by simp only [mF_tally, hw1, if_pos c2]), by rw [ht]; exact hP, va_K.moved hW.alike hK⟩, hS.F ht⟩) hS.2.2 dX1_tally_9
/-- copy's loop -/
def mF_told (p2 v : Int32) : Int32 := if p2 = 2 then (if v ≤ 16000 then (if (-16000) ≤ v then v else (-16000)) else 16000) else v
def mF_copyL (p1 p2 : Int32) : Nat → Int32 → MS → MS
  | 0, _, S => S
  | n + 1, i, S => if mc S p1 ≤ i then S else mF_copyL p1 p2 n (i + 1) (mF_put S p2 i (mF_told p2 (mh S ((24 * p1) + i))))
def mF_copy (S : MS) (p1 p2 : Int32) : Int32 × MS := (if (mF_isBook p1) = 0 then ((-300000), S) else (if (mF_isBook p2) = 0 then ((-300000), S) else (if p1 = p2 then ((-300000), S) else (if 0 ≤ (mc S p1) then (mF_answer (mF_copyL p1 p2 25 0 (msFa S 0)) (mc (mF_copyL p1 p2 25 0 (msFa S 0)) p1)) else (mF_answer (mF_copyL p1 p2 25 0 (msFa S ((-100000) - p1))) (mc (mF_copyL p1 p2 25 0 (msFa S ((-100000) - p1))) p1))))))
theorem hdX1_copy : yX1_copy.cls = RX1 ∧ yX1_copy.cls ≠ "java/lang/invoke/MethodHandle" ∧ yX1_copy.cls ≠ "java/lang/invoke/VarHandle" ∧ (parseMethodDescriptor yX1_copy.desc).map (fun d => d.parameters.length) = some 2 := by decide +kernel
set_option maxHeartbeats 4000000 in
set_option maxRecDepth 100000 in
theorem c_X1_copy (l : Launch) (D : va_G) (a : MA) (hO : mOk a) (S : MS) (p1 p2 : Int32) (hI : mI S) : Met l yX1_copy wsX1_copy ({ frames := 2, cells := 0, slots := 0, locals := 45 }) (va_Pc [.ref (ma a), .int p1, .int p2] (mB D a S)) (mQi D a (mF_copy S p1 p2)) 0 0 (mA a) := by
  refine Met.ofW (cc := cX1_copy) (maxL := 5) (ret := (some .int)) (by decide) rfl ?_
  intro p e s m args below meth c s₁ B hml hv
  obtain ⟨rfl, hP, hK⟩ := hv
  have hx := B.exec
  have hb := B.bytes
  have hr := B.returns
  have hts := atoms_spec (ws := wsX1_copy) B.pre
  have hown : s.vm.findClass RX1 = some m.cls := findClass_of_methodNamed B.named
  have hlocks := B.notSynchronized
  have hS : va_S (mA a) s.heap s.heap [] := va_S.rf
  have hP : va_P D vwCl (mW a S) s.heap := hP
  have hu : ∀ w ∈ wsX10, w ∈ wsX1_copy := fun _ h => List.mem_cons_of_mem _ (List.mem_append_right _ h)
  have hk50 := hts (.constant RX1 50 (-300000)) (by decide +kernel)
  have hf7 := hts (.fieldLink RX1 7 "FlightBooksModel" "many" "[I") (by decide +kernel)
  have hf23 := hts (.fieldLink RX1 23 "FlightBooksModel" "fault" "I") (by decide +kernel)
  have hk26 := hts (.constant RX1 26 (-100000)) (by decide +kernel)
  have hf13 := hts (.fieldLink RX1 13 "FlightBooksModel" "cells" "[I") (by decide +kernel)
  have loop : ∀ (n k : Nat) (i : Int32) (Z : MS) (H : Heap) (locs : List Loc) (ls : Array Slot), k ≤ 24 → 25 ≤ k + n → i = nI k → va_P D vwCl (mW a Z) H → va_S (mA a) s.heap H locs → lv_has ls 5 [(3, .int i), (0, .ref (ma a)), (1, .int p1), (2, .int p2)] → mF_copy S p1 p2 = mF_answer (mF_copyL p1 p2 n i Z) (mc (mF_copyL p1 p2 n i Z) p1) → vp_in p1 5 → vp_in p2 5 → mI Z → W p l e (headSpec wsX1_copy ({ frames := 2, cells := 0, slots := 0, locals := 45 })).room s m [.ref (ma a), .int p1, .int p2].toArray below meth c H locs 0 0 (MQ below (mQi D a (mF_copy S p1 p2)) [.ref (ma a), .int p1, .int p2].toArray s 0 0 (mA a)) (F0 m 45 ls []) := by
    intro n
    induction n with
    | zero =>
      intro k i Z H locs ls h1 h2
      exact absurd h2 (by omega)
    | succ n ih =>
      intro k i Z H locs ls hk hkn ei hP hS hl hF h5 h6 hI
      refine lv_iload_n hx hb dX1_copy_45 rfl (lv_at hl 0 rfl) ?_
      refine lv_aload_n hx hb dX1_copy_46 rfl (lv_at hl 1 rfl) ?_
      refine m_get hx hb hts hu hown hK hP 1 (by decide) hf7 rfl (v := .ref (mac a)) rfl dX1_copy_47 ?_
      refine lv_iload_n hx hb dX1_copy_50 rfl (lv_at hl 2 rfl) ?_
      refine m_ldc hx hb hK hP h5 dX1_copy_51 ?_
      refine lv_icmp_ge (tgt := 119) hx hb dX1_copy_52 (by decide) (fun c11 => ?_) (fun c11 => ?_)
      · refine lv_aload_n hx hb dX1_copy_119 rfl (lv_at hl 1 rfl) ?_
        refine lv_aload_n hx hb dX1_copy_120 rfl (lv_at hl 1 rfl) ?_
        refine m_get hx hb hts hu hown hK hP 1 (by decide) hf7 rfl (v := .ref (mac a)) rfl dX1_copy_121 ?_
        refine lv_iload_n hx hb dX1_copy_124 rfl (lv_at hl 2 rfl) ?_
        refine m_ldc hx hb hK hP h5 dX1_copy_125 ?_
        refine va_calli (va_runV (As := [.int (mc Z p1)]) (rest := []) ⟨hx, hb, hml, hown, hts⟩ (c_X1_answer l D a hO Z (mc Z p1)) (cwV 1 hts gX1_copy_X1_answer rfl rfl rfl hdX1_answer ⟨Nat.le_of_ble_eq_true rfl, Nat.le_of_ble_eq_true rfl⟩) (mPreV hK hP) rfl rfl hl.1 rfl (lv_room (Nat.le_of_ble_eq_true rfl)) dX1_copy_126 ⟨Nat.zero_le _, Nat.zero_le _⟩) hS (fun q _ h => h) (fun q h => h) (fun r12 S12 t H1 locs ht hvm hw12 hB hz1 hk1 hS => ?_)
        obtain ⟨hP, -⟩ := hB
        rw [ht] at hP
        exact W.iret (v := r12) hx hb hr (fun t ht hW => ⟨⟨r12, S12, rfl, (hF.trans (by simp only [mF_copyL, if_pos c11, hw12])), by rw [ht]; exact hP, va_K.moved hW.alike hK⟩, hS.F ht⟩) hS.2.2 dX1_copy_129
      · obtain ⟨hin, hkk⟩ := xl_in (N := 24) (by decide) hk ei (hI.1 _ (vk_lt h5)).2 c11
        have hix := me_ix h5 hin
        refine lv_aload_n hx hb dX1_copy_55 rfl (lv_at hl 1 rfl) ?_
        refine m_get hx hb hts hu hown hK hP 2 (by decide) hf13 rfl (v := .ref (mah a)) rfl dX1_copy_56 ?_
        refine lv_bipush (v := 24) hx hb dX1_copy_59 (by decide) ?_
        refine lv_iload_n hx hb dX1_copy_61 rfl (lv_at hl 2 rfl) ?_
        refine lv_imul hx hb dX1_copy_62 ?_
        refine lv_iload_n hx hb dX1_copy_63 rfl (lv_at hl 0 rfl) ?_
        refine lv_iadd hx hb dX1_copy_64 ?_
        refine m_ldh hx hb hK hP hix dX1_copy_65 ?_
        refine lv_istore (lv' := [(4, .int (mh Z ((24 * p1) + i))), (3, .int i), (0, .ref (ma a)), (1, .int p1), (2, .int p2)]) hx hb dX1_copy_66 hl (by decide) rfl (fun ls hl => ?_)
        refine lv_iload_n hx hb dX1_copy_68 rfl (lv_at hl 4 rfl) ?_
        refine lv_iconst (v := 2) hx hb dX1_copy_69 (by decide) ?_
        refine lv_icmp_ne (tgt := 105) hx hb dX1_copy_70 (by decide) (fun c14 => ?_) (fun c14 => ?_)
        · refine lv_aload_n hx hb dX1_copy_105 rfl (lv_at hl 2 rfl) ?_
          refine lv_iload_n hx hb dX1_copy_106 rfl (lv_at hl 4 rfl) ?_
          refine lv_iload_n hx hb dX1_copy_107 rfl (lv_at hl 1 rfl) ?_
          refine lv_iload hx hb dX1_copy_108 (lv_at hl 0 rfl) ?_
          refine va_callv (va_runV (As := [.int p2, .int i, .int (mh Z ((24 * p1) + i))]) (rest := []) ⟨hx, hb, hml, hown, hts⟩ (c_X1_put l D a hO Z p2 i (mh Z ((24 * p1) + i)) hI h6) (cwV 3 hts gX1_copy_X1_put rfl rfl rfl hdX1_put ⟨Nat.le_of_ble_eq_true rfl, Nat.le_of_ble_eq_true rfl⟩) (mPreV hK hP) rfl rfl hl.1 rfl (lv_room (Nat.le_of_ble_eq_true rfl)) dX1_copy_110 ⟨Nat.zero_le _, Nat.zero_le _⟩) hS (fun q _ h => h) (fun q h => h) (fun S15 t H1 locs ht hvm hw15 hB hz1 hk1 hS => ?_)
          obtain ⟨hP, -⟩ := hB
          rw [ht] at hP
          have hI := mI_put hI hw15
          refine lv_iinc (v := (i + 1)) (lv' := [(3, .int (i + 1)), (4, .int (mh Z ((24 * p1) + i))), (0, .ref (ma a)), (1, .int p1), (2, .int p2)]) hx hb dX1_copy_113 hl (k := 1) rfl rfl (by decide) rfl (fun ls hl => ?_)
          refine lv_goto (tgt := 45) hx hb dX1_copy_116 (by decide) ?_
          exact ih (k + 1) (i + 1) S15 _ _ ls hkk (by omega) (by rw [ei]; exact nI_1 k) hP hS (lv_sub hl [0, 2, 3, 4] rfl) (hF.trans (by simp only [mF_copyL, mF_told, if_neg c11, if_neg c14, hw15])) h5 h6 hI
        · refine lv_iload hx hb dX1_copy_73 (lv_at hl 0 rfl) ?_
          refine lv_sipush (v := 16000) hx hb dX1_copy_75 (by decide) ?_
          refine lv_icmp_le (tgt := 87) hx hb dX1_copy_78 (by decide) (fun c17 => ?_) (fun c17 => ?_)
          · refine lv_iload hx hb dX1_copy_87 (lv_at hl 0 rfl) ?_
            refine lv_sipush (v := (-16000)) hx hb dX1_copy_89 (by decide) ?_
            refine lv_icmp_ge (tgt := 101) hx hb dX1_copy_92 (by decide) (fun c18 => ?_) (fun c18 => ?_)
            · refine lv_iload hx hb dX1_copy_101 (lv_at hl 0 rfl) ?_
              refine lv_istore (lv' := [(4, .int (mh Z ((24 * p1) + i))), (3, .int i), (0, .ref (ma a)), (1, .int p1), (2, .int p2)]) hx hb dX1_copy_103 hl (by decide) rfl (fun ls hl => ?_)
              refine lv_aload_n hx hb dX1_copy_105 rfl (lv_at hl 2 rfl) ?_
              refine lv_iload_n hx hb dX1_copy_106 rfl (lv_at hl 4 rfl) ?_
              refine lv_iload_n hx hb dX1_copy_107 rfl (lv_at hl 1 rfl) ?_
              refine lv_iload hx hb dX1_copy_108 (lv_at hl 0 rfl) ?_
              refine va_callv (va_runV (As := [.int p2, .int i, .int (mh Z ((24 * p1) + i))]) (rest := []) ⟨hx, hb, hml, hown, hts⟩ (c_X1_put l D a hO Z p2 i (mh Z ((24 * p1) + i)) hI h6) (cwV 3 hts gX1_copy_X1_put rfl rfl rfl hdX1_put ⟨Nat.le_of_ble_eq_true rfl, Nat.le_of_ble_eq_true rfl⟩) (mPreV hK hP) rfl rfl hl.1 rfl (lv_room (Nat.le_of_ble_eq_true rfl)) dX1_copy_110 ⟨Nat.zero_le _, Nat.zero_le _⟩) hS (fun q _ h => h) (fun q h => h) (fun S19 t H1 locs ht hvm hw19 hB hz1 hk1 hS => ?_)
              obtain ⟨hP, -⟩ := hB
              rw [ht] at hP
              have hI := mI_put hI hw19
              refine lv_iinc (v := (i + 1)) (lv' := [(3, .int (i + 1)), (4, .int (mh Z ((24 * p1) + i))), (0, .ref (ma a)), (1, .int p1), (2, .int p2)]) hx hb dX1_copy_113 hl (k := 1) rfl rfl (by decide) rfl (fun ls hl => ?_)
              refine lv_goto (tgt := 45) hx hb dX1_copy_116 (by decide) ?_
              exact ih (k + 1) (i + 1) S19 _ _ ls hkk (by omega) (by rw [ei]; exact nI_1 k) hP hS (lv_sub hl [0, 2, 3, 4] rfl) (hF.trans (by simp only [mF_copyL, mF_told, if_neg c11, if_pos c14, if_pos c17, if_pos c18, hw19])) h5 h6 hI
            · refine lv_sipush (v := (-16000)) hx hb dX1_copy_95 (by decide) ?_
              refine lv_goto (tgt := 103) hx hb dX1_copy_98 (by decide) ?_
              refine lv_istore (lv' := [(4, .int (-16000)), (3, .int i), (0, .ref (ma a)), (1, .int p1), (2, .int p2)]) hx hb dX1_copy_103 hl (by decide) rfl (fun ls hl => ?_)
              refine lv_aload_n hx hb dX1_copy_105 rfl (lv_at hl 2 rfl) ?_
              refine lv_iload_n hx hb dX1_copy_106 rfl (lv_at hl 4 rfl) ?_
              refine lv_iload_n hx hb dX1_copy_107 rfl (lv_at hl 1 rfl) ?_
              refine lv_iload hx hb dX1_copy_108 (lv_at hl 0 rfl) ?_
              refine va_callv (va_runV (As := [.int p2, .int i, .int (-16000)]) (rest := []) ⟨hx, hb, hml, hown, hts⟩ (c_X1_put l D a hO Z p2 i (-16000) hI h6) (cwV 3 hts gX1_copy_X1_put rfl rfl rfl hdX1_put ⟨Nat.le_of_ble_eq_true rfl, Nat.le_of_ble_eq_true rfl⟩) (mPreV hK hP) rfl rfl hl.1 rfl (lv_room (Nat.le_of_ble_eq_true rfl)) dX1_copy_110 ⟨Nat.zero_le _, Nat.zero_le _⟩) hS (fun q _ h => h) (fun q h => h) (fun S21 t H1 locs ht hvm hw21 hB hz1 hk1 hS => ?_)
              obtain ⟨hP, -⟩ := hB
              rw [ht] at hP
              have hI := mI_put hI hw21
              refine lv_iinc (v := (i + 1)) (lv' := [(3, .int (i + 1)), (4, .int (-16000)), (0, .ref (ma a)), (1, .int p1), (2, .int p2)]) hx hb dX1_copy_113 hl (k := 1) rfl rfl (by decide) rfl (fun ls hl => ?_)
              refine lv_goto (tgt := 45) hx hb dX1_copy_116 (by decide) ?_
              exact ih (k + 1) (i + 1) S21 _ _ ls hkk (by omega) (by rw [ei]; exact nI_1 k) hP hS (lv_sub hl [0, 2, 3, 4] rfl) (hF.trans (by simp only [mF_copyL, mF_told, if_neg c11, if_pos c14, if_pos c17, if_neg c18, hw21])) h5 h6 hI
          · refine lv_sipush (v := 16000) hx hb dX1_copy_81 (by decide) ?_
            refine lv_goto (tgt := 103) hx hb dX1_copy_84 (by decide) ?_
            refine lv_istore (lv' := [(4, .int 16000), (3, .int i), (0, .ref (ma a)), (1, .int p1), (2, .int p2)]) hx hb dX1_copy_103 hl (by decide) rfl (fun ls hl => ?_)
            refine lv_aload_n hx hb dX1_copy_105 rfl (lv_at hl 2 rfl) ?_
            refine lv_iload_n hx hb dX1_copy_106 rfl (lv_at hl 4 rfl) ?_
            refine lv_iload_n hx hb dX1_copy_107 rfl (lv_at hl 1 rfl) ?_
            refine lv_iload hx hb dX1_copy_108 (lv_at hl 0 rfl) ?_
            refine va_callv (va_runV (As := [.int p2, .int i, .int 16000]) (rest := []) ⟨hx, hb, hml, hown, hts⟩ (c_X1_put l D a hO Z p2 i 16000 hI h6) (cwV 3 hts gX1_copy_X1_put rfl rfl rfl hdX1_put ⟨Nat.le_of_ble_eq_true rfl, Nat.le_of_ble_eq_true rfl⟩) (mPreV hK hP) rfl rfl hl.1 rfl (lv_room (Nat.le_of_ble_eq_true rfl)) dX1_copy_110 ⟨Nat.zero_le _, Nat.zero_le _⟩) hS (fun q _ h => h) (fun q h => h) (fun S23 t H1 locs ht hvm hw23 hB hz1 hk1 hS => ?_)
            obtain ⟨hP, -⟩ := hB
            rw [ht] at hP
            have hI := mI_put hI hw23
            refine lv_iinc (v := (i + 1)) (lv' := [(3, .int (i + 1)), (4, .int 16000), (0, .ref (ma a)), (1, .int p1), (2, .int p2)]) hx hb dX1_copy_113 hl (k := 1) rfl rfl (by decide) rfl (fun ls hl => ?_)
            refine lv_goto (tgt := 45) hx hb dX1_copy_116 (by decide) ?_
            exact ih (k + 1) (i + 1) S23 _ _ ls hkk (by omega) (by rw [ei]; exact nI_1 k) hP hS (lv_sub hl [0, 2, 3, 4] rfl) (hF.trans (by simp only [mF_copyL, mF_told, if_neg c11, if_pos c14, if_neg c17, hw23])) h5 h6 hI
  have hl := lv_entry ([.ref (ma a), .int p1, .int p2]) (n := 5) (Nat.le_of_ble_eq_true rfl)
  rw [lg_entry_eq]
  generalize (lg_sl ([.ref (ma a), .int p1, .int p2]) ++ List.replicate (5 - (lg_sl ([.ref (ma a), .int p1, .int p2])).length) Slot.unset).toArray = ls at hl ⊢
  have hl : lv_has ls 5 [(0, .ref (ma a)), (1, .int p1), (2, .int p2)] := hl
  refine lv_iload_n hx hb dX1_copy_0 rfl (lv_at hl 1 rfl) ?_
  refine va_calli (va_runS (As := [.int p1]) (rest := []) ⟨hx, hb, hml, hown, hts⟩ (c_X1_isBook l p1) (va_cwS 1 hts gX1_copy_X1_isBook rfl rfl rfl hdX1_isBook ⟨Nat.le_of_ble_eq_true rfl, Nat.le_of_ble_eq_true rfl⟩) pPreS rfl rfl hl.1 rfl (lv_room (Nat.le_of_ble_eq_true rfl)) dX1_copy_1 ⟨Nat.zero_le _, Nat.zero_le _⟩) hS (fun q _ h => h.elim) (fun q h => h.elim) (fun r1 u1 t H1 locs ht hvm hw1 hB hz1 hk1 hS => ?_)
  have hP := P_kept hP hk1
  refine lv_if_eq (tgt := 19) hx hb dX1_copy_4 (by decide) (fun c2 => ?_) (fun c2 => ?_)
  · refine lv_ldc (v := (-300000)) hx hb hown hk50 dX1_copy_19 ?_
    exact W.iret (v := (-300000)) hx hb hr (fun t ht hW => ⟨⟨(-300000), S, rfl, (by simp only [mF_copy, hw1, if_pos c2]), by rw [ht]; exact hP, va_K.moved hW.alike hK⟩, hS.F ht⟩) hS.2.2 dX1_copy_21
  · have hn4 := me_book hw1 c2
    refine lv_iload_n hx hb dX1_copy_7 rfl (lv_at hl 2 rfl) ?_
    refine va_calli (va_runS (As := [.int p2]) (rest := []) ⟨hx, hb, hml, hown, hts⟩ (c_X1_isBook l p2) (va_cwS 1 hts gX1_copy_X1_isBook rfl rfl rfl hdX1_isBook ⟨Nat.le_of_ble_eq_true rfl, Nat.le_of_ble_eq_true rfl⟩) pPreS rfl rfl hl.1 rfl (lv_room (Nat.le_of_ble_eq_true rfl)) dX1_copy_8 ⟨Nat.zero_le _, Nat.zero_le _⟩) hS (fun q _ h => h.elim) (fun q h => h.elim) (fun r5 u5 t H1 locs ht hvm hw5 hB hz1 hk1 hS => ?_)
    have hP := P_kept hP hk1
    refine lv_if_eq (tgt := 19) hx hb dX1_copy_11 (by decide) (fun c6 => ?_) (fun c6 => ?_)
    · refine lv_ldc (v := (-300000)) hx hb hown hk50 dX1_copy_19 ?_
      exact W.iret (v := (-300000)) hx hb hr (fun t ht hW => ⟨⟨(-300000), S, rfl, (by simp only [mF_copy, hw1, if_neg c2, hw5, if_pos c6]), by rw [ht]; exact hP, va_K.moved hW.alike hK⟩, hS.F ht⟩) hS.2.2 dX1_copy_21
    · have hn8 := me_book hw5 c6
      refine lv_iload_n hx hb dX1_copy_14 rfl (lv_at hl 1 rfl) ?_
      refine lv_iload_n hx hb dX1_copy_15 rfl (lv_at hl 2 rfl) ?_
      refine lv_icmp_ne (tgt := 22) hx hb dX1_copy_16 (by decide) (fun c9 => ?_) (fun c9 => ?_)
      · refine lv_aload_n hx hb dX1_copy_22 rfl (lv_at hl 0 rfl) ?_
        refine lv_aload_n hx hb dX1_copy_23 rfl (lv_at hl 0 rfl) ?_
        refine m_get hx hb hts hu hown hK hP 1 (by decide) hf7 rfl (v := .ref (mac a)) rfl dX1_copy_24 ?_
        refine lv_iload_n hx hb dX1_copy_27 rfl (lv_at hl 1 rfl) ?_
        refine m_ldc hx hb hK hP hn4 dX1_copy_28 ?_
        refine lv_if_ge (tgt := 39) hx hb dX1_copy_29 (by decide) (fun c10 => ?_) (fun c10 => ?_)
        · refine lv_iconst (v := 0) hx hb dX1_copy_39 (by decide) ?_
          refine m_puti hx hb hts hu hown hO hK hP hS 11 (by decide) hf23 rfl rfl (by decide +kernel) (msFa S) (fun _ => rfl) (fun _ => rfl) dX1_copy_40 (fun H locs hP hS => ?_)
          have hI := mI_fault 0 hI
          refine lv_iconst (v := 0) hx hb dX1_copy_43 (by decide) ?_
          refine lv_istore_n (lv' := [(3, .int 0), (0, .ref (ma a)), (1, .int p1), (2, .int p2)]) hx hb dX1_copy_44 rfl hl (by decide) rfl (fun ls hl => ?_)
          exact loop 25 0 0 (msFa S 0) _ _ ls (by decide) (by decide) nI_0.symm hP hS (lv_sub hl [0, 1, 2, 3] rfl) (by simp only [mF_copy, hw1, if_neg c2, hw5, if_neg c6, if_neg c9, if_pos c10]) hn4 hn8 hI
        · refine lv_ldc (v := (-100000)) hx hb hown hk26 dX1_copy_32 ?_
          refine lv_iload_n hx hb dX1_copy_34 rfl (lv_at hl 1 rfl) ?_
          refine lv_isub hx hb dX1_copy_35 ?_
          refine lv_goto (tgt := 40) hx hb dX1_copy_36 (by decide) ?_
          refine m_puti hx hb hts hu hown hO hK hP hS 11 (by decide) hf23 rfl rfl (by decide +kernel) (msFa S) (fun _ => rfl) (fun _ => rfl) dX1_copy_40 (fun H locs hP hS => ?_)
          have hI := mI_fault ((-100000) - p1) hI
          refine lv_iconst (v := 0) hx hb dX1_copy_43 (by decide) ?_
          refine lv_istore_n (lv' := [(3, .int 0), (0, .ref (ma a)), (1, .int p1), (2, .int p2)]) hx hb dX1_copy_44 rfl hl (by decide) rfl (fun ls hl => ?_)
          exact loop 25 0 0 (msFa S ((-100000) - p1)) _ _ ls (by decide) (by decide) nI_0.symm hP hS (lv_sub hl [0, 1, 2, 3] rfl) (by simp only [mF_copy, hw1, if_neg c2, hw5, if_neg c6, if_neg c9, if_neg c10]) hn4 hn8 hI
      · refine lv_ldc (v := (-300000)) hx hb hown hk50 dX1_copy_19 ?_
        exact W.iret (v := (-300000)) hx hb hr (fun t ht hW => ⟨⟨(-300000), S, rfl, (by simp only [mF_copy, hw1, if_neg c2, hw5, if_neg c6, if_pos c9]), by rw [ht]; exact hP, va_K.moved hW.alike hK⟩, hS.F ht⟩) hS.2.2 dX1_copy_21
/-- survey's loop -/
def mF_surveyL : Nat → Int32 → MS → MS
  | 0, _, S => S
  | n + 1, i, S => if 576 ≤ i then S else mF_surveyL n (i + 1) (msp S i 0)
def mF_survey (S : MS) (p1 p2 : Int32) : Int32 × MS := (if 24 < p1 then ((-2), S) else (if p2 ≤ 24 then (if p1 < 0 then ((-3), S) else (if 0 ≤ p2 then (0, mF_surveyL 577 0 (msAc (msRw (msCh S 1) p1) p2)) else ((-3), S))) else ((-2), S)))
theorem hdX1_survey : yX1_survey.cls = RX1 ∧ yX1_survey.cls ≠ "java/lang/invoke/MethodHandle" ∧ yX1_survey.cls ≠ "java/lang/invoke/VarHandle" ∧ (parseMethodDescriptor yX1_survey.desc).map (fun d => d.parameters.length) = some 2 := by decide +kernel
set_option maxHeartbeats 4000000 in
set_option maxRecDepth 100000 in
theorem c_X1_survey (l : Launch) (D : va_G) (a : MA) (hO : mOk a) (S : MS) (p1 p2 : Int32) : Met l yX1_survey wsX1_survey ({ frames := 0, cells := 0, slots := 0, locals := 0 }) (va_Pc [.ref (ma a), .int p1, .int p2] (mB D a S)) (mQi D a (mF_survey S p1 p2)) 0 0 (mA a) := by
  refine Met.ofW (cc := cX1_survey) (maxL := 4) (ret := (some .int)) (by decide) rfl ?_
  intro p e s m args below meth c s₁ B hml hv
  obtain ⟨rfl, hP, hK⟩ := hv
  have hx := B.exec
  have hb := B.bytes
  have hr := B.returns
  have hts := atoms_spec (ws := wsX1_survey) B.pre
  have hown : s.vm.findClass RX1 = some m.cls := findClass_of_methodNamed B.named
  have hlocks := B.notSynchronized
  have hS : va_S (mA a) s.heap s.heap [] := va_S.rf
  have hP : va_P D vwCl (mW a S) s.heap := hP
  have hu : ∀ w ∈ wsX10, w ∈ wsX1_survey := fun _ h => List.mem_cons_of_mem _ (List.mem_append_right _ h)
  have hf84 := hts (.fieldLink RX1 84 "FlightBooksModel" "charted" "Z") (by decide +kernel)
  have hf88 := hts (.fieldLink RX1 88 "FlightBooksModel" "rows" "I") (by decide +kernel)
  have hf91 := hts (.fieldLink RX1 91 "FlightBooksModel" "across" "I") (by decide +kernel)
  have hf16 := hts (.fieldLink RX1 16 "FlightBooksModel" "places" "[I") (by decide +kernel)
  have loop : ∀ (n k : Nat) (i : Int32) (Z : MS) (H : Heap) (locs : List Loc) (ls : Array Slot), k ≤ 576 → 577 ≤ k + n → i = nI k → va_P D vwCl (mW a Z) H → va_S (mA a) s.heap H locs → lv_has ls 4 [(3, .int i), (0, .ref (ma a)), (1, .int p1), (2, .int p2)] → mF_survey S p1 p2 = (0, mF_surveyL n i Z) → W p l e (headSpec wsX1_survey ({ frames := 0, cells := 0, slots := 0, locals := 0 })).room s m [.ref (ma a), .int p1, .int p2].toArray below meth c H locs 0 0 (MQ below (mQi D a (mF_survey S p1 p2)) [.ref (ma a), .int p1, .int p2].toArray s 0 0 (mA a)) (F0 m 43 ls []) := by
    intro n
    induction n with
    | zero =>
      intro k i Z H locs ls h1 h2
      exact absurd h2 (by omega)
    | succ n ih =>
      intro k i Z H locs ls hk hkn ei hP hS hl hF
      refine lv_iload_n hx hb dX1_survey_43 rfl (lv_at hl 0 rfl) ?_
      refine lv_sipush (v := 576) hx hb dX1_survey_44 (by decide) ?_
      refine lv_icmp_ge (tgt := 63) hx hb dX1_survey_47 (by decide) (fun c5 => ?_) (fun c5 => ?_)
      · refine lv_iconst (v := 0) hx hb dX1_survey_63 (by decide) ?_
        exact W.iret (v := 0) hx hb hr (fun t ht hW => ⟨⟨0, Z, rfl, (hF.trans (by simp only [mF_surveyL, if_pos c5])), by rw [ht]; exact hP, va_K.moved hW.alike hK⟩, hS.F ht⟩) hS.2.2 dX1_survey_64
      · obtain ⟨hin, hkk⟩ := xl_in (N := 576) (by decide) hk ei (by decide) c5
        refine lv_aload_n hx hb dX1_survey_50 rfl (lv_at hl 1 rfl) ?_
        refine m_get hx hb hts hu hown hK hP 3 (by decide) hf16 rfl (v := .ref (map' a)) rfl dX1_survey_51 ?_
        refine lv_iload_n hx hb dX1_survey_54 rfl (lv_at hl 0 rfl) ?_
        refine lv_iconst (v := 0) hx hb dX1_survey_55 (by decide) ?_
        refine m_stp hx hb hO hK hP hS hin dX1_survey_56 (fun H locs hP hS => ?_)
        refine lv_iinc (v := (i + 1)) (lv' := [(3, .int (i + 1)), (0, .ref (ma a)), (1, .int p1), (2, .int p2)]) hx hb dX1_survey_57 hl (k := 0) rfl rfl (by decide) rfl (fun ls hl => ?_)
        refine lv_goto (tgt := 43) hx hb dX1_survey_60 (by decide) ?_
        exact ih (k + 1) (i + 1) (msp Z i 0) _ _ ls hkk (by omega) (by rw [ei]; exact nI_1 k) hP hS (lv_sub hl [0, 1, 2, 3] rfl) (hF.trans (by simp only [mF_surveyL, if_neg c5]))
  have hl := lv_entry ([.ref (ma a), .int p1, .int p2]) (n := 4) (Nat.le_of_ble_eq_true rfl)
  rw [lg_entry_eq]
  generalize (lg_sl ([.ref (ma a), .int p1, .int p2]) ++ List.replicate (4 - (lg_sl ([.ref (ma a), .int p1, .int p2])).length) Slot.unset).toArray = ls at hl ⊢
  have hl : lv_has ls 4 [(0, .ref (ma a)), (1, .int p1), (2, .int p2)] := hl
  refine lv_iload_n hx hb dX1_survey_0 rfl (lv_at hl 1 rfl) ?_
  refine lv_bipush (v := 24) hx hb dX1_survey_1 (by decide) ?_
  refine lv_icmp_gt (tgt := 12) hx hb dX1_survey_3 (by decide) (fun c1 => ?_) (fun c1 => ?_)
  · refine lv_bipush (v := (-2)) hx hb dX1_survey_12 (by decide) ?_
    exact W.iret (v := (-2)) hx hb hr (fun t ht hW => ⟨⟨(-2), S, rfl, (by simp only [mF_survey, if_pos c1]), by rw [ht]; exact hP, va_K.moved hW.alike hK⟩, hS.F ht⟩) hS.2.2 dX1_survey_14
  · refine lv_iload_n hx hb dX1_survey_6 rfl (lv_at hl 2 rfl) ?_
    refine lv_bipush (v := 24) hx hb dX1_survey_7 (by decide) ?_
    refine lv_icmp_le (tgt := 15) hx hb dX1_survey_9 (by decide) (fun c2 => ?_) (fun c2 => ?_)
    · refine lv_iload_n hx hb dX1_survey_15 rfl (lv_at hl 1 rfl) ?_
      refine lv_if_lt (tgt := 23) hx hb dX1_survey_16 (by decide) (fun c3 => ?_) (fun c3 => ?_)
      · refine lv_bipush (v := (-3)) hx hb dX1_survey_23 (by decide) ?_
        exact W.iret (v := (-3)) hx hb hr (fun t ht hW => ⟨⟨(-3), S, rfl, (by simp only [mF_survey, if_neg c1, if_pos c2, if_pos c3]), by rw [ht]; exact hP, va_K.moved hW.alike hK⟩, hS.F ht⟩) hS.2.2 dX1_survey_25
      · refine lv_iload_n hx hb dX1_survey_19 rfl (lv_at hl 2 rfl) ?_
        refine lv_if_ge (tgt := 26) hx hb dX1_survey_20 (by decide) (fun c4 => ?_) (fun c4 => ?_)
        · refine lv_aload_n hx hb dX1_survey_26 rfl (lv_at hl 0 rfl) ?_
          refine lv_iconst (v := 1) hx hb dX1_survey_27 (by decide) ?_
          refine m_put (ty := .boolean) hx hb hts hu hown hO hK hP hS 4 (by decide) hf84 rfl rfl (by decide +kernel) rfl rfl (msCh S 1) rfl rfl dX1_survey_28 (fun H locs hP hS => ?_)
          refine lv_aload_n hx hb dX1_survey_31 rfl (lv_at hl 0 rfl) ?_
          refine lv_iload_n hx hb dX1_survey_32 rfl (lv_at hl 1 rfl) ?_
          refine m_puti hx hb hts hu hown hO hK hP hS 5 (by decide) hf88 rfl rfl (by decide +kernel) (msRw (msCh S 1)) (fun _ => rfl) (fun _ => rfl) dX1_survey_33 (fun H locs hP hS => ?_)
          refine lv_aload_n hx hb dX1_survey_36 rfl (lv_at hl 0 rfl) ?_
          refine lv_iload_n hx hb dX1_survey_37 rfl (lv_at hl 2 rfl) ?_
          refine m_puti hx hb hts hu hown hO hK hP hS 6 (by decide) hf91 rfl rfl (by decide +kernel) (msAc (msRw (msCh S 1) p1)) (fun _ => rfl) (fun _ => rfl) dX1_survey_38 (fun H locs hP hS => ?_)
          refine lv_iconst (v := 0) hx hb dX1_survey_41 (by decide) ?_
          refine lv_istore_n (lv' := [(3, .int 0), (0, .ref (ma a)), (1, .int p1), (2, .int p2)]) hx hb dX1_survey_42 rfl hl (by decide) rfl (fun ls hl => ?_)
          exact loop 577 0 0 (msAc (msRw (msCh S 1) p1) p2) _ _ ls (by decide) (by decide) nI_0.symm hP hS (lv_sub hl [0, 1, 2, 3] rfl) (by simp only [mF_survey, if_neg c1, if_pos c2, if_neg c3, if_pos c4])
        · refine lv_bipush (v := (-3)) hx hb dX1_survey_23 (by decide) ?_
          exact W.iret (v := (-3)) hx hb hr (fun t ht hW => ⟨⟨(-3), S, rfl, (by simp only [mF_survey, if_neg c1, if_pos c2, if_neg c3, if_neg c4]), by rw [ht]; exact hP, va_K.moved hW.alike hK⟩, hS.F ht⟩) hS.2.2 dX1_survey_25
    · refine lv_bipush (v := (-2)) hx hb dX1_survey_12 (by decide) ?_
      exact W.iret (v := (-2)) hx hb hr (fun t ht hW => ⟨⟨(-2), S, rfl, (by simp only [mF_survey, if_neg c1, if_neg c2]), by rw [ht]; exact hP, va_K.moved hW.alike hK⟩, hS.F ht⟩) hS.2.2 dX1_survey_14
/-- look's loop -/
def mF_lookL (S : MS) : Nat → Int32 → Int32 → Int32
  | 0, _, z => z
  | n + 1, i, z => if 5 ≤ i then z else if mc S i < 0 then mF_lookL S n (i + 1) (z + 0) else mF_lookL S n (i + 1) (z + 1)
def mF_look (S : MS) (p1 : Int32) : Int32 := (if p1 = 5 then (mF_lookL S 6 0 0) else (if p1 = 0 then (mN S) else (if p1 = 1 then (mOu S) else (if p1 = 2 then (mOl S) else (if p1 = 3 then (mFs S) else (if p1 = 4 then (mLa S) else (-300000)))))))
theorem hdX1_look : yX1_look.cls = RX1 ∧ yX1_look.cls ≠ "java/lang/invoke/MethodHandle" ∧ yX1_look.cls ≠ "java/lang/invoke/VarHandle" ∧ (parseMethodDescriptor yX1_look.desc).map (fun d => d.parameters.length) = some 1 := by decide +kernel
set_option maxHeartbeats 4000000 in
set_option maxRecDepth 100000 in
theorem c_X1_look (l : Launch) (D : va_G) (a : MA) (hO : mOk a) (S : MS) (p1 : Int32) : Met l yX1_look wsX1_look ({ frames := 0, cells := 0, slots := 0, locals := 0 }) (va_Pc [.ref (ma a), .int p1] (mB D a S)) (va_Qi (fun (r : Int32) (u : MS) => mF_look S p1 = r ∧ u = S) (mB D a) (mA a)) 0 0 (mA a) := by
  refine Met.ofW (cc := cX1_look) (maxL := 4) (ret := (some .int)) (by decide) rfl ?_
  intro p e s m args below meth c s₁ B hml hv
  obtain ⟨rfl, hP, hK⟩ := hv
  have hx := B.exec
  have hb := B.bytes
  have hr := B.returns
  have hts := atoms_spec (ws := wsX1_look) B.pre
  have hown : s.vm.findClass RX1 = some m.cls := findClass_of_methodNamed B.named
  have hlocks := B.notSynchronized
  have hS : va_S (mA a) s.heap s.heap [] := va_S.rf
  have hP : va_P D vwCl (mW a S) s.heap := hP
  have hu : ∀ w ∈ wsX10, w ∈ wsX1_look := fun _ h => List.mem_cons_of_mem _ (List.mem_append_right _ h)
  have hk50 := hts (.constant RX1 50 (-300000)) (by decide +kernel)
  have hf43 := hts (.fieldLink RX1 43 "FlightBooksModel" "latest" "I") (by decide +kernel)
  have hf40 := hts (.fieldLink RX1 40 "FlightBooksModel" "faults" "I") (by decide +kernel)
  have hf78 := hts (.fieldLink RX1 78 "FlightBooksModel" "outLoads" "I") (by decide +kernel)
  have hf75 := hts (.fieldLink RX1 75 "FlightBooksModel" "out" "I") (by decide +kernel)
  have hf19 := hts (.fieldLink RX1 19 "FlightBooksModel" "chambers" "I") (by decide +kernel)
  have hf7 := hts (.fieldLink RX1 7 "FlightBooksModel" "many" "[I") (by decide +kernel)
  have loop : ∀ (n k : Nat) (i z : Int32) (H : Heap) (locs : List Loc) (ls : Array Slot), k ≤ 5 → 6 ≤ k + n → i = nI k → va_P D vwCl (mW a S) H → va_S (mA a) s.heap H locs → lv_has ls 4 [(3, .int i), (2, .int z), (0, .ref (ma a))] → mF_look S p1 = mF_lookL S n i z → W p l e (headSpec wsX1_look ({ frames := 0, cells := 0, slots := 0, locals := 0 })).room s m [.ref (ma a), .int p1].toArray below meth c H locs 0 0 (MQ below (va_Qi (fun (r : Int32) (u : MS) => mF_look S p1 = r ∧ u = S) (mB D a) (mA a)) [.ref (ma a), .int p1].toArray s 0 0 (mA a)) (F0 m 9 ls []) := by
    intro n
    induction n with
    | zero =>
      intro k i z H locs ls h1 h2
      exact absurd h2 (by omega)
    | succ n ih =>
      intro k i z H locs ls hk hkn ei hP hS hl hF
      refine lv_iload_n hx hb dX1_look_9 rfl (lv_at hl 0 rfl) ?_
      refine lv_iconst (v := 5) hx hb dX1_look_10 (by decide) ?_
      refine lv_icmp_ge (tgt := 37) hx hb dX1_look_11 (by decide) (fun c7 => ?_) (fun c7 => ?_)
      · refine lv_iload_n hx hb dX1_look_37 rfl (lv_at hl 1 rfl) ?_
        exact W.iret (v := z) hx hb hr (fun t ht hW => ⟨⟨z, S, rfl, ⟨(hF.trans (by simp only [mF_lookL, if_pos c7])), rfl⟩, by rw [ht]; exact hP, va_K.moved hW.alike hK⟩, hS.F ht⟩) hS.2.2 dX1_look_38
      · obtain ⟨hin, hkk⟩ := xl_in (N := 5) (by decide) hk ei (by decide) c7
        refine lv_iload_n hx hb dX1_look_14 rfl (lv_at hl 1 rfl) ?_
        refine lv_aload_n hx hb dX1_look_15 rfl (lv_at hl 2 rfl) ?_
        refine m_get hx hb hts hu hown hK hP 1 (by decide) hf7 rfl (v := .ref (mac a)) rfl dX1_look_16 ?_
        refine lv_iload_n hx hb dX1_look_19 rfl (lv_at hl 0 rfl) ?_
        refine m_ldc hx hb hK hP hin dX1_look_20 ?_
        refine lv_if_lt (tgt := 28) hx hb dX1_look_21 (by decide) (fun c8 => ?_) (fun c8 => ?_)
        · refine lv_iconst (v := 0) hx hb dX1_look_28 (by decide) ?_
          refine lv_iadd hx hb dX1_look_29 ?_
          refine lv_istore_n (lv' := [(2, .int (z + 0)), (3, .int i), (0, .ref (ma a))]) hx hb dX1_look_30 rfl hl (by decide) rfl (fun ls hl => ?_)
          refine lv_iinc (v := (i + 1)) (lv' := [(3, .int (i + 1)), (2, .int (z + 0)), (0, .ref (ma a))]) hx hb dX1_look_31 hl (k := 1) rfl rfl (by decide) rfl (fun ls hl => ?_)
          refine lv_goto (tgt := 9) hx hb dX1_look_34 (by decide) ?_
          exact ih (k + 1) (i + 1) (z + 0) _ _ ls hkk (by omega) (by rw [ei]; exact nI_1 k) hP hS (lv_sub hl [0, 1, 2] rfl) (hF.trans (by simp only [mF_lookL, if_neg c7, if_pos c8]))
        · refine lv_iconst (v := 1) hx hb dX1_look_24 (by decide) ?_
          refine lv_goto (tgt := 29) hx hb dX1_look_25 (by decide) ?_
          refine lv_iadd hx hb dX1_look_29 ?_
          refine lv_istore_n (lv' := [(2, .int (z + 1)), (3, .int i), (0, .ref (ma a))]) hx hb dX1_look_30 rfl hl (by decide) rfl (fun ls hl => ?_)
          refine lv_iinc (v := (i + 1)) (lv' := [(3, .int (i + 1)), (2, .int (z + 1)), (0, .ref (ma a))]) hx hb dX1_look_31 hl (k := 1) rfl rfl (by decide) rfl (fun ls hl => ?_)
          refine lv_goto (tgt := 9) hx hb dX1_look_34 (by decide) ?_
          exact ih (k + 1) (i + 1) (z + 1) _ _ ls hkk (by omega) (by rw [ei]; exact nI_1 k) hP hS (lv_sub hl [0, 1, 2] rfl) (hF.trans (by simp only [mF_lookL, if_neg c7, if_neg c8]))
  have hl := lv_entry ([.ref (ma a), .int p1]) (n := 4) (Nat.le_of_ble_eq_true rfl)
  rw [lg_entry_eq]
  generalize (lg_sl ([.ref (ma a), .int p1]) ++ List.replicate (4 - (lg_sl ([.ref (ma a), .int p1])).length) Slot.unset).toArray = ls at hl ⊢
  have hl : lv_has ls 4 [(0, .ref (ma a)), (1, .int p1)] := hl
  refine lv_iload_n hx hb dX1_look_0 rfl (lv_at hl 1 rfl) ?_
  refine lv_iconst (v := 5) hx hb dX1_look_1 (by decide) ?_
  refine lv_icmp_ne (tgt := 39) hx hb dX1_look_2 (by decide) (fun c1 => ?_) (fun c1 => ?_)
  · refine lv_iload_n hx hb dX1_look_39 rfl (lv_at hl 1 rfl) ?_
    refine lv_if_ne (tgt := 50) hx hb dX1_look_40 (by decide) (fun c2 => ?_) (fun c2 => ?_)
    · refine lv_iload_n hx hb dX1_look_50 rfl (lv_at hl 1 rfl) ?_
      refine lv_iconst (v := 1) hx hb dX1_look_51 (by decide) ?_
      refine lv_icmp_ne (tgt := 62) hx hb dX1_look_52 (by decide) (fun c3 => ?_) (fun c3 => ?_)
      · refine lv_iload_n hx hb dX1_look_62 rfl (lv_at hl 1 rfl) ?_
        refine lv_iconst (v := 2) hx hb dX1_look_63 (by decide) ?_
        refine lv_icmp_ne (tgt := 74) hx hb dX1_look_64 (by decide) (fun c4 => ?_) (fun c4 => ?_)
        · refine lv_iload_n hx hb dX1_look_74 rfl (lv_at hl 1 rfl) ?_
          refine lv_iconst (v := 3) hx hb dX1_look_75 (by decide) ?_
          refine lv_icmp_ne (tgt := 86) hx hb dX1_look_76 (by decide) (fun c5 => ?_) (fun c5 => ?_)
          · refine lv_iload_n hx hb dX1_look_86 rfl (lv_at hl 1 rfl) ?_
            refine lv_iconst (v := 4) hx hb dX1_look_87 (by decide) ?_
            refine lv_icmp_ne (tgt := 98) hx hb dX1_look_88 (by decide) (fun c6 => ?_) (fun c6 => ?_)
            · refine lv_ldc (v := (-300000)) hx hb hown hk50 dX1_look_98 ?_
              exact W.iret (v := (-300000)) hx hb hr (fun t ht hW => ⟨⟨(-300000), S, rfl, ⟨(by simp only [mF_look, if_neg c1, if_neg c2, if_neg c3, if_neg c4, if_neg c5, if_neg c6]), rfl⟩, by rw [ht]; exact hP, va_K.moved hW.alike hK⟩, hS.F ht⟩) hS.2.2 dX1_look_100
            · refine lv_aload_n hx hb dX1_look_91 rfl (lv_at hl 0 rfl) ?_
              refine m_get hx hb hts hu hown hK hP 10 (by decide) hf43 rfl (v := .int (mLa S)) rfl dX1_look_92 ?_
              refine lv_goto (tgt := 100) hx hb dX1_look_95 (by decide) ?_
              exact W.iret (v := (mLa S)) hx hb hr (fun t ht hW => ⟨⟨(mLa S), S, rfl, ⟨(by simp only [mF_look, if_neg c1, if_neg c2, if_neg c3, if_neg c4, if_neg c5, if_pos c6]), rfl⟩, by rw [ht]; exact hP, va_K.moved hW.alike hK⟩, hS.F ht⟩) hS.2.2 dX1_look_100
          · refine lv_aload_n hx hb dX1_look_79 rfl (lv_at hl 0 rfl) ?_
            refine m_get hx hb hts hu hown hK hP 9 (by decide) hf40 rfl (v := .int (mFs S)) rfl dX1_look_80 ?_
            refine lv_goto (tgt := 100) hx hb dX1_look_83 (by decide) ?_
            exact W.iret (v := (mFs S)) hx hb hr (fun t ht hW => ⟨⟨(mFs S), S, rfl, ⟨(by simp only [mF_look, if_neg c1, if_neg c2, if_neg c3, if_neg c4, if_pos c5]), rfl⟩, by rw [ht]; exact hP, va_K.moved hW.alike hK⟩, hS.F ht⟩) hS.2.2 dX1_look_100
        · refine lv_aload_n hx hb dX1_look_67 rfl (lv_at hl 0 rfl) ?_
          refine m_get hx hb hts hu hown hK hP 8 (by decide) hf78 rfl (v := .int (mOl S)) rfl dX1_look_68 ?_
          refine lv_goto (tgt := 100) hx hb dX1_look_71 (by decide) ?_
          exact W.iret (v := (mOl S)) hx hb hr (fun t ht hW => ⟨⟨(mOl S), S, rfl, ⟨(by simp only [mF_look, if_neg c1, if_neg c2, if_neg c3, if_pos c4]), rfl⟩, by rw [ht]; exact hP, va_K.moved hW.alike hK⟩, hS.F ht⟩) hS.2.2 dX1_look_100
      · refine lv_aload_n hx hb dX1_look_55 rfl (lv_at hl 0 rfl) ?_
        refine m_get hx hb hts hu hown hK hP 7 (by decide) hf75 rfl (v := .int (mOu S)) rfl dX1_look_56 ?_
        refine lv_goto (tgt := 100) hx hb dX1_look_59 (by decide) ?_
        exact W.iret (v := (mOu S)) hx hb hr (fun t ht hW => ⟨⟨(mOu S), S, rfl, ⟨(by simp only [mF_look, if_neg c1, if_neg c2, if_pos c3]), rfl⟩, by rw [ht]; exact hP, va_K.moved hW.alike hK⟩, hS.F ht⟩) hS.2.2 dX1_look_100
    · refine lv_aload_n hx hb dX1_look_43 rfl (lv_at hl 0 rfl) ?_
      refine m_get hx hb hts hu hown hK hP 0 (by decide) hf19 rfl (v := .int (mN S)) rfl dX1_look_44 ?_
      refine lv_goto (tgt := 100) hx hb dX1_look_47 (by decide) ?_
      exact W.iret (v := (mN S)) hx hb hr (fun t ht hW => ⟨⟨(mN S), S, rfl, ⟨(by simp only [mF_look, if_neg c1, if_pos c2]), rfl⟩, by rw [ht]; exact hP, va_K.moved hW.alike hK⟩, hS.F ht⟩) hS.2.2 dX1_look_100
  · refine lv_iconst (v := 0) hx hb dX1_look_5 (by decide) ?_
    refine lv_istore_n (lv' := [(2, .int 0), (0, .ref (ma a)), (1, .int p1)]) hx hb dX1_look_6 rfl hl (by decide) rfl (fun ls hl => ?_)
    refine lv_iconst (v := 0) hx hb dX1_look_7 (by decide) ?_
    refine lv_istore_n (lv' := [(3, .int 0), (2, .int 0), (0, .ref (ma a)), (1, .int p1)]) hx hb dX1_look_8 rfl hl (by decide) rfl (fun ls hl => ?_)
    exact loop 6 0 0 0 _ _ ls (by decide) (by decide) nI_0.symm hP hS (lv_sub hl [0, 1, 2] rfl) (by simp only [mF_look, if_pos c1])
