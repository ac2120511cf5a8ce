theorem xl_in {n i : Int32} {k N : Nat} (hN : N < 2 ^ 31) (hk : k ≤ N) (ei : i = nI k) (hn : n.toInt ≤ (N : Int)) (c : ¬ n ≤ i) : vp_in i N ∧ k < N := by
  rw [Int32.le_iff_toInt_le, ei, nI_toInt (by omega)] at c
  have h : k < N := by omega
  exact ⟨by rw [ei]; exact vp_in_nI h hN, h⟩
/-- tally's loop: what comes behind it, with n rounds left -/
def xF_tallyL (S : XS) (p1 : Int32) : Nat → Int32 → Int32 → Int32
  | 0, _, z => z
  | n + 1, i, z => if xc S p1 ≤ i then z else xF_tallyL S p1 n (i + 1) (z + xh S p1 i)
def xF_tally (S : XS) (p1 : Int32) : Int32 × XS := (if (xF_isBook p1) = 0 then ((-300000), S) else (let q4 := xF_endsAtBook S p1; (if q4.1 = 0 then (xF_tallyL q4.2 p1 25 0 0, q4.2) else ((xLf q4.2), q4.2))))
theorem hdX0_tally : yX0_tally.cls = RX0 ∧ yX0_tally.cls ≠ "java/lang/invoke/MethodHandle" ∧ yX0_tally.cls ≠ "java/lang/invoke/VarHandle" ∧ (parseMethodDescriptor yX0_tally.desc).map (fun d => d.parameters.length) = some 1 := by decide +kernel
set_option maxHeartbeats 4000000 in
set_option maxRecDepth 100000 in
theorem c_X0_tally (l : Launch) (D : va_G) (a : XA) (hO : xOk a) (S : XS) (p1 : Int32) (hI : xI S) : Met l yX0_tally wsX0_tally ({ frames := 2, cells := 0, slots := 0, locals := 42 }) (va_Pc [.ref (xa a), .int p1] (xB D a S)) (xQi D a (xF_tally S p1)) 0 0 (xA a) := by
  refine Met.ofW (cc := cX0_tally) (maxL := 4) (ret := (some .int)) (by decide) rfl ?_
  intro p e s m args below meth c s₁ B hml hv
  obtain ⟨rfl, hP, hK⟩ := hv
  have hx := B.exec
  have hb := B.bytes
  have hr := B.returns
  have hts := atoms_spec (ws := wsX0_tally) B.pre
  have hown : s.vm.findClass RX0 = some m.cls := findClass_of_methodNamed B.named
  have hlocks := B.notSynchronized
  have hS : va_S (xA a) s.heap s.heap [] := va_S.rf
  have hP : va_P D vwCl (xW a S) s.heap := hP
  have hu : ∀ w ∈ wsX00, w ∈ wsX0_tally := fun _ h => List.mem_cons_of_mem _ (List.mem_append_right _ h)
  have hf37 := hts (.fieldLink RX0 37 "FlightBooks" "latestFault" "I") (by decide +kernel)
  have hk57 := hts (.constant RX0 57 (-300000)) (by decide +kernel)
  have hf9 := hts (.fieldLink RX0 9 "FlightBooks" "lineCounts" "[I") (by decide +kernel)
  have hf15 := hts (.fieldLink RX0 15 "FlightBooks" "held" "[[I") (by decide +kernel)
  have loop : ∀ (n k : Nat) (i z : Int32) (H : Heap) (locs : List Loc) (ls : Array Slot), k ≤ 24 → 25 ≤ k + n → i = nI k → va_P D vwCl (xW a S) H → va_S (xA a) s.heap H locs → lv_has ls 4 [(3, .int i), (2, .int z), (0, .ref (xa a)), (1, .int p1)] → xF_tally S p1 = (xF_tallyL S p1 n i z, S) → vp_in p1 5 → W p l e (headSpec wsX0_tally ({ frames := 2, cells := 0, slots := 0, locals := 42 })).room s m [.ref (xa a), .int p1].toArray below meth c H locs 0 0 (MQ below (xQi D a (xF_tally S p1)) [.ref (xa a), .int p1].toArray s 0 0 (xA a)) (F0 m 27 ls []) := by
    intro n
    induction n with
    | zero =>
      intro k i z H locs ls h1 h2
      exact absurd h2 (by omega)
    | succ n ih =>
      intro k i z H locs ls hk hkn ei hP hS hl hF h5
      refine lv_iload_n hx hb dX0_tally_27 rfl (lv_at hl 0 rfl) ?_
      refine lv_aload_n hx hb dX0_tally_28 rfl (lv_at hl 2 rfl) ?_
      refine x_get hx hb hts hu hown hK hP 1 (by decide) hf9 rfl (v := .ref (xac a)) rfl dX0_tally_29 ?_
      refine lv_iload_n hx hb dX0_tally_32 rfl (lv_at hl 3 rfl) ?_
      refine x_ldc hx hb hK hP h5 dX0_tally_33 ?_
      refine lv_icmp_ge (tgt := 54) hx hb dX0_tally_34 (by decide) (fun c10 => ?_) (fun c10 => ?_)
      · refine lv_iload_n hx hb dX0_tally_54 rfl (lv_at hl 1 rfl) ?_
        exact W.iret (v := z) hx hb hr (fun t ht hW => ⟨⟨z, S, rfl, (hF.trans (by simp only [xF_tallyL, if_pos c10])), by rw [ht]; exact hP, va_K.moved hW.alike hK⟩, hS.F ht⟩) hS.2.2 dX0_tally_55
      · obtain ⟨hin, hkk⟩ := xl_in (N := 24) (by decide) hk ei (hI.1 _ (vk_lt h5)).2 c10
        refine lv_iload_n hx hb dX0_tally_37 rfl (lv_at hl 1 rfl) ?_
        refine lv_aload_n hx hb dX0_tally_38 rfl (lv_at hl 2 rfl) ?_
        refine x_get hx hb hts hu hown hK hP 2 (by decide) hf15 rfl (v := .ref (xah a)) rfl dX0_tally_39 ?_
        refine lv_iload_n hx hb dX0_tally_42 rfl (lv_at hl 3 rfl) ?_
        refine x_aldh hx hb hK hP h5 dX0_tally_43 ?_
        refine lv_iload_n hx hb dX0_tally_44 rfl (lv_at hl 0 rfl) ?_
        refine x_ldh hx hb hK hP h5 hin dX0_tally_45 ?_
        refine lv_iadd hx hb dX0_tally_46 ?_
        refine lv_istore_n (lv' := [(2, .int (z + (xh S p1 i))), (3, .int i), (0, .ref (xa a)), (1, .int p1)]) hx hb dX0_tally_47 rfl hl (by decide) rfl (fun ls hl => ?_)
        refine lv_iinc (v := (i + 1)) (lv' := [(3, .int (i + 1)), (2, .int (z + (xh S p1 i))), (0, .ref (xa a)), (1, .int p1)]) hx hb dX0_tally_48 hl (k := 1) rfl rfl (by decide) rfl (fun ls hl => ?_)
        refine lv_goto (tgt := 27) hx hb dX0_tally_51 (by decide) ?_
        exact ih (k + 1) (i + 1) (z + (xh S p1 i)) _ _ ls hkk (by omega) (by rw [ei]; exact nI_1 k) hP hS (lv_sub hl [0, 1, 2, 3] rfl) (hF.trans (by simp only [xF_tallyL, if_neg c10])) h5
  have hl := lv_entry ([.ref (xa a), .int p1]) (n := 4) (Nat.le_of_ble_eq_true rfl)
  rw [lg_entry_eq]
  generalize (lg_sl ([.ref (xa a), .int p1]) ++ List.replicate (4 - (lg_sl ([.ref (xa a), .int p1])).length) Slot.unset).toArray = ls at hl ⊢
  have hl : lv_has ls 4 [(0, .ref (xa a)), (1, .int p1)] := hl
  refine lv_iload_n hx hb dX0_tally_0 rfl (lv_at hl 1 rfl) ?_
  refine va_calli (va_runS (As := [.int p1]) (rest := []) ⟨hx, hb, hml, hown, hts⟩ (c_X0_isBook l p1) (va_cwS 1 hts gX0_tally_X0_isBook rfl rfl rfl hdX0_isBook ⟨Nat.le_of_ble_eq_true rfl, Nat.le_of_ble_eq_true rfl⟩) pPreS rfl rfl hl.1 rfl (lv_room (Nat.le_of_ble_eq_true rfl)) dX0_tally_1 ⟨Nat.zero_le _, Nat.zero_le _⟩) hS (fun q _ h => h.elim) (fun q h => h.elim) (fun r1 u1 t H1 locs ht hvm hw1 hB hz1 hk1 hS => ?_)
  have hP := P_kept hP hk1
  refine lv_if_ne (tgt := 10) hx hb dX0_tally_4 (by decide) (fun c2 => ?_) (fun c2 => ?_)
  · have hn3 := xe_book hw1 c2
    refine lv_aload_n hx hb dX0_tally_10 rfl (lv_at hl 0 rfl) ?_
    refine lv_iload_n hx hb dX0_tally_11 rfl (lv_at hl 1 rfl) ?_
    refine va_calli (va_runV (As := [.int p1]) (rest := []) ⟨hx, hb, hml, hown, hts⟩ (c_X0_endsAtBook l D a hO S p1 hn3) (cwV 1 hts gX0_tally_X0_endsAtBook rfl rfl rfl hdX0_endsAtBook ⟨Nat.le_of_ble_eq_true rfl, Nat.le_of_ble_eq_true rfl⟩) (xPreV hK hP) rfl rfl hl.1 rfl (lv_room (Nat.le_of_ble_eq_true rfl)) dX0_tally_12 ⟨Nat.zero_le _, Nat.zero_le _⟩) hS (fun q _ h => h) (fun q h => h) (fun r4 S4 t H1 locs ht hvm hw4 hB hz1 hk1 hS => ?_)
    obtain ⟨hP, -⟩ := hB
    rw [ht] at hP
    refine lv_if_eq (tgt := 23) hx hb dX0_tally_15 (by decide) (fun c6 => ?_) (fun c6 => ?_)
    · have hs7 := xe_endsAtBook hw4 c6
      subst hs7
      refine lv_iconst (v := 0) hx hb dX0_tally_23 (by decide) ?_
      refine lv_istore_n (lv' := [(2, .int 0), (0, .ref (xa a)), (1, .int p1)]) hx hb dX0_tally_24 rfl hl (by decide) rfl (fun ls hl => ?_)
      refine lv_iconst (v := 0) hx hb dX0_tally_25 (by decide) ?_
      refine lv_istore_n (lv' := [(3, .int 0), (2, .int 0), (0, .ref (xa a)), (1, .int p1)]) hx hb dX0_tally_26 rfl hl (by decide) rfl (fun ls hl => ?_)
      exact loop 25 0 0 0 _ _ ls (by decide) (by decide) nI_0.symm hP hS (lv_sub hl [0, 1, 2, 3] rfl) (by simp only [xF_tally, hw1, if_neg c2, hw4, if_pos c6]) hn3
    · refine lv_aload_n hx hb dX0_tally_18 rfl (lv_at hl 0 rfl) ?_
      refine x_get hx hb hts hu hown hK hP 9 (by decide) hf37 rfl (v := .int (xLf S4)) rfl dX0_tally_19 ?_
      exact W.iret (v := (xLf S4)) hx hb hr (fun t ht hW => ⟨⟨(xLf S4), S4, rfl, (by simp only [xF_tally, hw1, if_neg c2, hw4, if_neg c6]), by rw [ht]; exact hP, va_K.moved hW.alike hK⟩, hS.F ht⟩) hS.2.2 dX0_tally_22
  · refine lv_ldc (v := (-300000)) hx hb hown hk57 dX0_tally_7 ?_
    exact W.iret (v := (-300000)) hx hb hr (fun t ht hW => ⟨⟨(-300000), S, rfl, (by simp only [xF_tally, hw1, if_pos c2]), by rw [ht]; exact hP, va_K.moved hW.alike hK⟩, hS.F ht⟩) hS.2.2 dX0_tally_9
/-- copy's loop -/
def xF_copyL (p1 p2 : Int32) : Nat → Int32 → XS → Int32 × XS
  | 0, _, S => (0, S)
  | n + 1, i, S => if xc S p1 ≤ i then (xc S p1, S) else (let q := xF_endsAtLine S p2 i; if q.1 = 0 then xF_copyL p1 p2 n (i + 1) (xF_put q.2 p2 i (xF_told p2 (xh q.2 p1 i))) else (xLf q.2, q.2))
def xF_copy (S : XS) (p1 p2 : Int32) : Int32 × XS := (if (xF_isBook p1) = 0 then ((-300000), S) else (if (xF_isBook p2) = 0 then ((-300000), S) else (if p1 = p2 then ((-300000), S) else (let q10 := xF_endsAtBook S p1; (if q10.1 = 0 then (xF_copyL p1 p2 25 0 q10.2) else ((xLf q10.2), q10.2))))))
theorem hdX0_copy : yX0_copy.cls = RX0 ∧ yX0_copy.cls ≠ "java/lang/invoke/MethodHandle" ∧ yX0_copy.cls ≠ "java/lang/invoke/VarHandle" ∧ (parseMethodDescriptor yX0_copy.desc).map (fun d => d.parameters.length) = some 2 := by decide +kernel
set_option maxHeartbeats 4000000 in
set_option maxRecDepth 100000 in
theorem c_X0_copy (l : Launch) (D : va_G) (a : XA) (hO : xOk a) (S : XS) (p1 p2 : Int32) (hI : xI S) : Met l yX0_copy wsX0_copy ({ frames := 4, cells := 0, slots := 0, locals := 86 }) (va_Pc [.ref (xa a), .int p1, .int p2] (xB D a S)) (xQi D a (xF_copy S p1 p2)) 0 0 (xA a) := by
  refine Met.ofW (cc := cX0_copy) (maxL := 4) (ret := (some .int)) (by decide) rfl ?_
  intro p e s m args below meth c s₁ B hml hv
  obtain ⟨rfl, hP, hK⟩ := hv
  have hx := B.exec
  have hb := B.bytes
  have hr := B.returns
  have hts := atoms_spec (ws := wsX0_copy) B.pre
  have hown : s.vm.findClass RX0 = some m.cls := findClass_of_methodNamed B.named
  have hlocks := B.notSynchronized
  have hS : va_S (xA a) s.heap s.heap [] := va_S.rf
  have hP : va_P D vwCl (xW a S) s.heap := hP
  have hu : ∀ w ∈ wsX00, w ∈ wsX0_copy := fun _ h => List.mem_cons_of_mem _ (List.mem_append_right _ h)
  have hk57 := hts (.constant RX0 57 (-300000)) (by decide +kernel)
  have hf37 := hts (.fieldLink RX0 37 "FlightBooks" "latestFault" "I") (by decide +kernel)
  have hf9 := hts (.fieldLink RX0 9 "FlightBooks" "lineCounts" "[I") (by decide +kernel)
  have hf15 := hts (.fieldLink RX0 15 "FlightBooks" "held" "[[I") (by decide +kernel)
  have loop : ∀ (n k : Nat) (i : Int32) (Z : XS) (H : Heap) (locs : List Loc) (ls : Array Slot), k ≤ 24 → 25 ≤ k + n → i = nI k → va_P D vwCl (xW a Z) H → va_S (xA a) s.heap H locs → lv_has ls 4 [(3, .int i), (0, .ref (xa a)), (1, .int p1), (2, .int p2)] → xF_copy S p1 p2 = xF_copyL p1 p2 n i Z → vp_in p1 5 → vp_in p2 5 → xI Z → W p l e (headSpec wsX0_copy ({ frames := 4, cells := 0, slots := 0, locals := 86 })).room s m [.ref (xa a), .int p1, .int p2].toArray below meth c H locs 0 0 (MQ below (xQi D a (xF_copy S p1 p2)) [.ref (xa a), .int p1, .int p2].toArray s 0 0 (xA a)) (F0 m 37 ls []) := by
    intro n
    induction n with
    | zero =>
      intro k i Z H locs ls h1 h2
      exact absurd h2 (by omega)
    | succ n ih =>
      intro k i Z H locs ls hk hkn ei hP hS hl hF h5 h6 hI
      refine lv_iload_n hx hb dX0_copy_37 rfl (lv_at hl 0 rfl) ?_
      refine lv_aload_n hx hb dX0_copy_38 rfl (lv_at hl 1 rfl) ?_
      refine x_get hx hb hts hu hown hK hP 1 (by decide) hf9 rfl (v := .ref (xac a)) rfl dX0_copy_39 ?_
      refine lv_iload_n hx hb dX0_copy_42 rfl (lv_at hl 2 rfl) ?_
      refine x_ldc hx hb hK hP h5 dX0_copy_43 ?_
      refine lv_icmp_ge (tgt := 85) hx hb dX0_copy_44 (by decide) (fun c15 => ?_) (fun c15 => ?_)
      · refine lv_aload_n hx hb dX0_copy_85 rfl (lv_at hl 1 rfl) ?_
        refine x_get hx hb hts hu hown hK hP 1 (by decide) hf9 rfl (v := .ref (xac a)) rfl dX0_copy_86 ?_
        refine lv_iload_n hx hb dX0_copy_89 rfl (lv_at hl 2 rfl) ?_
        refine x_ldc hx hb hK hP h5 dX0_copy_90 ?_
        exact W.iret (v := (xc Z p1)) hx hb hr (fun t ht hW => ⟨⟨(xc Z p1), Z, rfl, (hF.trans (by simp only [xF_copyL, if_pos c15])), by rw [ht]; exact hP, va_K.moved hW.alike hK⟩, hS.F ht⟩) hS.2.2 dX0_copy_91
      · obtain ⟨hin, hkk⟩ := xl_in (N := 24) (by decide) hk ei (hI.1 _ (vk_lt h5)).2 c15
        refine lv_aload_n hx hb dX0_copy_47 rfl (lv_at hl 1 rfl) ?_
        refine lv_iload_n hx hb dX0_copy_48 rfl (lv_at hl 3 rfl) ?_
        refine lv_iload_n hx hb dX0_copy_49 rfl (lv_at hl 0 rfl) ?_
        refine va_calli (va_runV (As := [.int p2, .int i]) (rest := []) ⟨hx, hb, hml, hown, hts⟩ (c_X0_endsAtLine l D a hO Z p2 i hI h6) (cwV 2 hts gX0_copy_X0_endsAtLine rfl rfl rfl hdX0_endsAtLine ⟨Nat.le_of_ble_eq_true rfl, Nat.le_of_ble_eq_true rfl⟩) (xPreV hK hP) rfl rfl hl.1 rfl (lv_room (Nat.le_of_ble_eq_true rfl)) dX0_copy_50 ⟨Nat.zero_le _, Nat.zero_le _⟩) hS (fun q _ h => h) (fun q h => h) (fun r16 S16 t H1 locs ht hvm hw16 hB hz1 hk1 hS => ?_)
        obtain ⟨hP, -⟩ := hB
        rw [ht] at hP
        refine lv_if_eq (tgt := 61) hx hb dX0_copy_53 (by decide) (fun c18 => ?_) (fun c18 => ?_)
        · obtain ⟨hn19, hs19⟩ := xe_endsAtLine hI h6 hw16 c18
          subst hs19
          refine lv_aload_n hx hb dX0_copy_61 rfl (lv_at hl 1 rfl) ?_
          refine lv_iload_n hx hb dX0_copy_62 rfl (lv_at hl 3 rfl) ?_
          refine lv_iload_n hx hb dX0_copy_63 rfl (lv_at hl 0 rfl) ?_
          refine lv_iload_n hx hb dX0_copy_64 rfl (lv_at hl 3 rfl) ?_
          refine lv_aload_n hx hb dX0_copy_65 rfl (lv_at hl 1 rfl) ?_
          refine x_get hx hb hts hu hown hK hP 2 (by decide) hf15 rfl (v := .ref (xah a)) rfl dX0_copy_66 ?_
          refine lv_iload_n hx hb dX0_copy_69 rfl (lv_at hl 2 rfl) ?_
          refine x_aldh hx hb hK hP h5 dX0_copy_70 ?_
          refine lv_iload_n hx hb dX0_copy_71 rfl (lv_at hl 0 rfl) ?_
          refine x_ldh hx hb hK hP h5 hn19 dX0_copy_72 ?_
          refine va_calli (va_runS (As := [.int p2, .int (xh Z p1 i)]) (rest := [.int i, .int p2, .ref (xa a)]) ⟨hx, hb, hml, hown, hts⟩ (c_X0_told l p2 (xh Z p1 i)) (va_cwS 2 hts gX0_copy_X0_told rfl rfl rfl hdX0_told ⟨Nat.le_of_ble_eq_true rfl, Nat.le_of_ble_eq_true rfl⟩) pPreS rfl rfl hl.1 rfl (lv_room (Nat.le_of_ble_eq_true rfl)) dX0_copy_73 ⟨Nat.zero_le _, Nat.zero_le _⟩) hS (fun q _ h => h.elim) (fun q h => h.elim) (fun r20 u20 t H1 locs ht hvm hw20 hB hz1 hk1 hS => ?_)
          have hP := P_kept hP hk1
          refine va_callv (va_runV (As := [.int p2, .int i, .int r20]) (rest := []) ⟨hx, hb, hml, hown, hts⟩ (c_X0_put l D a hO Z p2 i r20 h6 hn19) (cwV 3 hts gX0_copy_X0_put rfl rfl rfl hdX0_put ⟨Nat.le_of_ble_eq_true rfl, Nat.le_of_ble_eq_true rfl⟩) (xPreV hK hP) rfl rfl hl.1 rfl (lv_room (Nat.le_of_ble_eq_true rfl)) dX0_copy_76 ⟨Nat.zero_le _, Nat.zero_le _⟩) hS (fun q _ h => h) (fun q h => h) (fun S21 t H1 locs ht hvm hw21 hB hz1 hk1 hS => ?_)
          obtain ⟨hP, -⟩ := hB
          rw [ht] at hP
          have hI := xI_put hI hw21
          refine lv_iinc (v := (i + 1)) (lv' := [(3, .int (i + 1)), (0, .ref (xa a)), (1, .int p1), (2, .int p2)]) hx hb dX0_copy_79 hl (k := 0) rfl rfl (by decide) rfl (fun ls hl => ?_)
          refine lv_goto (tgt := 37) hx hb dX0_copy_82 (by decide) ?_
          exact ih (k + 1) (i + 1) S21 _ _ ls hkk (by omega) (by rw [ei]; exact nI_1 k) hP hS (lv_sub hl [0, 1, 2, 3] rfl) (hF.trans (by simp only [xF_copyL, if_neg c15, hw16, if_pos c18, hw20, hw21])) h5 h6 hI
        · refine lv_aload_n hx hb dX0_copy_56 rfl (lv_at hl 1 rfl) ?_
          refine x_get hx hb hts hu hown hK hP 9 (by decide) hf37 rfl (v := .int (xLf S16)) rfl dX0_copy_57 ?_
          exact W.iret (v := (xLf S16)) hx hb hr (fun t ht hW => ⟨⟨(xLf S16), S16, rfl, (hF.trans (by simp only [xF_copyL, if_neg c15, hw16, if_neg c18])), by rw [ht]; exact hP, va_K.moved hW.alike hK⟩, hS.F ht⟩) hS.2.2 dX0_copy_60
  have hl := lv_entry ([.ref (xa a), .int p1, .int p2]) (n := 4) (Nat.le_of_ble_eq_true rfl)
  rw [lg_entry_eq]
  generalize (lg_sl ([.ref (xa a), .int p1, .int p2]) ++ List.replicate (4 - (lg_sl ([.ref (xa a), .int p1, .int p2])).length) Slot.unset).toArray = ls at hl ⊢
  have hl : lv_has ls 4 [(0, .ref (xa a)), (1, .int p1), (2, .int p2)] := hl
  refine lv_iload_n hx hb dX0_copy_0 rfl (lv_at hl 1 rfl) ?_
  refine va_calli (va_runS (As := [.int p1]) (rest := []) ⟨hx, hb, hml, hown, hts⟩ (c_X0_isBook l p1) (va_cwS 1 hts gX0_copy_X0_isBook rfl rfl rfl hdX0_isBook ⟨Nat.le_of_ble_eq_true rfl, Nat.le_of_ble_eq_true rfl⟩) pPreS rfl rfl hl.1 rfl (lv_room (Nat.le_of_ble_eq_true rfl)) dX0_copy_1 ⟨Nat.zero_le _, Nat.zero_le _⟩) hS (fun q _ h => h.elim) (fun q h => h.elim) (fun r1 u1 t H1 locs ht hvm hw1 hB hz1 hk1 hS => ?_)
  have hP := P_kept hP hk1
  refine lv_if_eq (tgt := 19) hx hb dX0_copy_4 (by decide) (fun c2 => ?_) (fun c2 => ?_)
  · refine lv_ldc (v := (-300000)) hx hb hown hk57 dX0_copy_19 ?_
    exact W.iret (v := (-300000)) hx hb hr (fun t ht hW => ⟨⟨(-300000), S, rfl, (by simp only [xF_copy, hw1, if_pos c2]), by rw [ht]; exact hP, va_K.moved hW.alike hK⟩, hS.F ht⟩) hS.2.2 dX0_copy_21
  · have hn4 := xe_book hw1 c2
    refine lv_iload_n hx hb dX0_copy_7 rfl (lv_at hl 2 rfl) ?_
    refine va_calli (va_runS (As := [.int p2]) (rest := []) ⟨hx, hb, hml, hown, hts⟩ (c_X0_isBook l p2) (va_cwS 1 hts gX0_copy_X0_isBook rfl rfl rfl hdX0_isBook ⟨Nat.le_of_ble_eq_true rfl, Nat.le_of_ble_eq_true rfl⟩) pPreS rfl rfl hl.1 rfl (lv_room (Nat.le_of_ble_eq_true rfl)) dX0_copy_8 ⟨Nat.zero_le _, Nat.zero_le _⟩) hS (fun q _ h => h.elim) (fun q h => h.elim) (fun r5 u5 t H1 locs ht hvm hw5 hB hz1 hk1 hS => ?_)
    have hP := P_kept hP hk1
    refine lv_if_eq (tgt := 19) hx hb dX0_copy_11 (by decide) (fun c6 => ?_) (fun c6 => ?_)
    · refine lv_ldc (v := (-300000)) hx hb hown hk57 dX0_copy_19 ?_
      exact W.iret (v := (-300000)) hx hb hr (fun t ht hW => ⟨⟨(-300000), S, rfl, (by simp only [xF_copy, hw1, if_neg c2, hw5, if_pos c6]), by rw [ht]; exact hP, va_K.moved hW.alike hK⟩, hS.F ht⟩) hS.2.2 dX0_copy_21
    · have hn8 := xe_book hw5 c6
      refine lv_iload_n hx hb dX0_copy_14 rfl (lv_at hl 1 rfl) ?_
      refine lv_iload_n hx hb dX0_copy_15 rfl (lv_at hl 2 rfl) ?_
      refine lv_icmp_ne (tgt := 22) hx hb dX0_copy_16 (by decide) (fun c9 => ?_) (fun c9 => ?_)
      · refine lv_aload_n hx hb dX0_copy_22 rfl (lv_at hl 0 rfl) ?_
        refine lv_iload_n hx hb dX0_copy_23 rfl (lv_at hl 1 rfl) ?_
        refine va_calli (va_runV (As := [.int p1]) (rest := []) ⟨hx, hb, hml, hown, hts⟩ (c_X0_endsAtBook l D a hO S p1 hn4) (cwV 1 hts gX0_copy_X0_endsAtBook rfl rfl rfl hdX0_endsAtBook ⟨Nat.le_of_ble_eq_true rfl, Nat.le_of_ble_eq_true rfl⟩) (xPreV hK hP) rfl rfl hl.1 rfl (lv_room (Nat.le_of_ble_eq_true rfl)) dX0_copy_24 ⟨Nat.zero_le _, Nat.zero_le _⟩) hS (fun q _ h => h) (fun q h => h) (fun r10 S10 t H1 locs ht hvm hw10 hB hz1 hk1 hS => ?_)
        obtain ⟨hP, -⟩ := hB
        rw [ht] at hP
        refine lv_if_eq (tgt := 35) hx hb dX0_copy_27 (by decide) (fun c12 => ?_) (fun c12 => ?_)
        · have hs13 := xe_endsAtBook hw10 c12
          subst hs13
          refine lv_iconst (v := 0) hx hb dX0_copy_35 (by decide) ?_
          refine lv_istore_n (lv' := [(3, .int 0), (0, .ref (xa a)), (1, .int p1), (2, .int p2)]) hx hb dX0_copy_36 rfl hl (by decide) rfl (fun ls hl => ?_)
          exact loop 25 0 0 S _ _ ls (by decide) (by decide) nI_0.symm hP hS (lv_sub hl [0, 1, 2, 3] rfl) (by simp only [xF_copy, hw1, if_neg c2, hw5, if_neg c6, if_neg c9, hw10, if_pos c12]) hn4 hn8 hI
        · refine lv_aload_n hx hb dX0_copy_30 rfl (lv_at hl 0 rfl) ?_
          refine x_get hx hb hts hu hown hK hP 9 (by decide) hf37 rfl (v := .int (xLf S10)) rfl dX0_copy_31 ?_
          exact W.iret (v := (xLf S10)) hx hb hr (fun t ht hW => ⟨⟨(xLf S10), S10, rfl, (by simp only [xF_copy, hw1, if_neg c2, hw5, if_neg c6, if_neg c9, hw10, if_neg c12]), by rw [ht]; exact hP, va_K.moved hW.alike hK⟩, hS.F ht⟩) hS.2.2 dX0_copy_34
      · refine lv_ldc (v := (-300000)) hx hb hown hk57 dX0_copy_19 ?_
        exact W.iret (v := (-300000)) hx hb hr (fun t ht hW => ⟨⟨(-300000), S, rfl, (by simp only [xF_copy, hw1, if_neg c2, hw5, if_neg c6, if_pos c9]), by rw [ht]; exact hP, va_K.moved hW.alike hK⟩, hS.F ht⟩) hS.2.2 dX0_copy_21
/-- survey's loop -/
def xF_surveyL (p1 : Int32) : Nat → Int32 → XS → XS
  | 0, _, S => S
  | n + 1, i, S => if p1 ≤ i then S else xF_surveyL p1 n (i + 1) (xsP S (va_up (xP S) (Int32.toNatClampNeg i) (fun _ => 0)))
def xF_survey (S : XS) (p1 p2 : Int32) : Int32 × XS := (if 24 < p1 then ((-2), S) else (if p2 ≤ 24 then (if p1 < 0 then ((-3), S) else (if 0 ≤ p2 then (0, (xsCc (xsRc (xF_surveyL p1 25 0 S) p1) p2)) else ((-3), S))) else ((-2), S)))
theorem hdX0_survey : yX0_survey.cls = RX0 ∧ yX0_survey.cls ≠ "java/lang/invoke/MethodHandle" ∧ yX0_survey.cls ≠ "java/lang/invoke/VarHandle" ∧ (parseMethodDescriptor yX0_survey.desc).map (fun d => d.parameters.length) = some 2 := by decide +kernel
set_option maxHeartbeats 4000000 in
set_option maxRecDepth 100000 in
theorem c_X0_survey (l : Launch) (D : va_G) (a : XA) (hO : xOk a) (S : XS) (p1 p2 : Int32) : Met l yX0_survey wsX0_survey ({ frames := 1, cells := 0, slots := 0, locals := 23 }) (va_Pc [.ref (xa a), .int p1, .int p2] (xB D a S)) (xQi D a (xF_survey S p1 p2)) 0 0 (xA a) := by
  refine Met.ofW (cc := cX0_survey) (maxL := 4) (ret := (some .int)) (by decide) rfl ?_
  intro p e s m args below meth c s₁ B hml hv
  obtain ⟨rfl, hP, hK⟩ := hv
  have hx := B.exec
  have hb := B.bytes
  have hr := B.returns
  have hts := atoms_spec (ws := wsX0_survey) B.pre
  have hown : s.vm.findClass RX0 = some m.cls := findClass_of_methodNamed B.named
  have hlocks := B.notSynchronized
  have hS : va_S (xA a) s.heap s.heap [] := va_S.rf
  have hP : va_P D vwCl (xW a S) s.heap := hP
  have hu : ∀ w ∈ wsX00, w ∈ wsX0_survey := fun _ h => List.mem_cons_of_mem _ (List.mem_append_right _ h)
  have hf21 := hts (.fieldLink RX0 21 "FlightBooks" "rowCount" "I") (by decide +kernel)
  have hf25 := hts (.fieldLink RX0 25 "FlightBooks" "columnCount" "I") (by decide +kernel)
  have hf18 := hts (.fieldLink RX0 18 "FlightBooks" "places" "[[I") (by decide +kernel)
  have loop : ∀ (n k : Nat) (i : Int32) (Z : XS) (H : Heap) (locs : List Loc) (ls : Array Slot), k ≤ 24 → 25 ≤ k + n → i = nI k → va_P D vwCl (xW a Z) H → va_S (xA a) s.heap H locs → lv_has ls 4 [(3, .int i), (0, .ref (xa a)), (1, .int p1), (2, .int p2)] → xF_survey S p1 p2 = (0, (xsCc (xsRc (xF_surveyL p1 n i Z) p1) p2)) → ¬ 24 < p1 → W p l e (headSpec wsX0_survey ({ frames := 1, cells := 0, slots := 0, locals := 23 })).room s m [.ref (xa a), .int p1, .int p2].toArray below meth c H locs 0 0 (MQ below (xQi D a (xF_survey S p1 p2)) [.ref (xa a), .int p1, .int p2].toArray s 0 0 (xA a)) (F0 m 28 ls []) := by
    intro n
    induction n with
    | zero =>
      intro k i Z H locs ls h1 h2
      exact absurd h2 (by omega)
    | succ n ih =>
      intro k i Z H locs ls hk hkn ei hP hS hl hF h24
      refine lv_iload_n hx hb dX0_survey_28 rfl (lv_at hl 0 rfl) ?_
      refine lv_iload_n hx hb dX0_survey_29 rfl (lv_at hl 2 rfl) ?_
      refine lv_icmp_ge (tgt := 49) hx hb dX0_survey_30 (by decide) (fun c5 => ?_) (fun c5 => ?_)
      · refine lv_aload_n hx hb dX0_survey_49 rfl (lv_at hl 1 rfl) ?_
        refine lv_iload_n hx hb dX0_survey_50 rfl (lv_at hl 2 rfl) ?_
        refine x_put hx hb hts hu hown hO hK hP hS 4 (by decide) hf21 rfl rfl (by decide +kernel) (xsRc Z p1) rfl rfl dX0_survey_51 (fun H locs hP hS => ?_)
        refine lv_aload_n hx hb dX0_survey_54 rfl (lv_at hl 1 rfl) ?_
        refine lv_iload_n hx hb dX0_survey_55 rfl (lv_at hl 3 rfl) ?_
        refine x_put hx hb hts hu hown hO hK hP hS 5 (by decide) hf25 rfl rfl (by decide +kernel) (xsCc (xsRc Z p1) p2) rfl rfl dX0_survey_56 (fun H locs hP hS => ?_)
        refine lv_iconst (v := 0) hx hb dX0_survey_59 (by decide) ?_
        exact W.iret (v := 0) hx hb hr (fun t ht hW => ⟨⟨0, (xsCc (xsRc Z p1) p2), rfl, (hF.trans (by simp only [xF_surveyL, if_pos c5])), by rw [ht]; exact hP, va_K.moved hW.alike hK⟩, hS.F ht⟩) hS.2.2 dX0_survey_60
      · obtain ⟨hin, hkk⟩ := xl_in (N := 24) (by decide) hk ei (by rw [Int32.lt_iff_toInt_lt, show (24 : Int32).toInt = 24 by decide] at h24; omega) c5
        refine lv_aload_n hx hb dX0_survey_33 rfl (lv_at hl 1 rfl) ?_
        refine x_get hx hb hts hu hown hK hP 3 (by decide) hf18 rfl (v := .ref (xap a)) rfl dX0_survey_34 ?_
        refine lv_iload_n hx hb dX0_survey_37 rfl (lv_at hl 0 rfl) ?_
        refine x_aldp hx hb hK hP hin dX0_survey_38 ?_
        refine lv_iconst (v := 0) hx hb dX0_survey_39 (by decide) ?_
        refine x_fillp (rest := []) hx hb hml hl.1 hown hts gX0_survey_J7_fill_53178 (Nat.le_of_ble_eq_true rfl) (Nat.le_of_ble_eq_true rfl) (Nat.zero_le _) (Nat.zero_le _) (Nat.zero_le _) hO hK hP hS hin dX0_survey_40 (fun H locs hP hS => ?_)
        refine lv_iinc (v := (i + 1)) (lv' := [(3, .int (i + 1)), (0, .ref (xa a)), (1, .int p1), (2, .int p2)]) hx hb dX0_survey_43 hl (k := 0) rfl rfl (by decide) rfl (fun ls hl => ?_)
        refine lv_goto (tgt := 28) hx hb dX0_survey_46 (by decide) ?_
        exact ih (k + 1) (i + 1) (xsP Z (va_up (xP Z) (Int32.toNatClampNeg i) (fun _ => 0))) _ _ ls hkk (by omega) (by rw [ei]; exact nI_1 k) hP hS (lv_sub hl [0, 1, 2, 3] rfl) (hF.trans (by simp only [xF_surveyL, if_neg c5])) h24
  have hl := lv_entry ([.ref (xa a), .int p1, .int p2]) (n := 4) (Nat.le_of_ble_eq_true rfl)
  rw [lg_entry_eq]
  generalize (lg_sl ([.ref (xa a), .int p1, .int p2]) ++ List.replicate (4 - (lg_sl ([.ref (xa a), .int p1, .int p2])).length) Slot.unset).toArray = ls at hl ⊢
  have hl : lv_has ls 4 [(0, .ref (xa a)), (1, .int p1), (2, .int p2)] := hl
  refine lv_iload_n hx hb dX0_survey_0 rfl (lv_at hl 1 rfl) ?_
  refine lv_bipush (v := 24) hx hb dX0_survey_1 (by decide) ?_
  refine lv_icmp_gt (tgt := 12) hx hb dX0_survey_3 (by decide) (fun c1 => ?_) (fun c1 => ?_)
  · refine lv_bipush (v := (-2)) hx hb dX0_survey_12 (by decide) ?_
    exact W.iret (v := (-2)) hx hb hr (fun t ht hW => ⟨⟨(-2), S, rfl, (by simp only [xF_survey, if_pos c1]), by rw [ht]; exact hP, va_K.moved hW.alike hK⟩, hS.F ht⟩) hS.2.2 dX0_survey_14
  · refine lv_iload_n hx hb dX0_survey_6 rfl (lv_at hl 2 rfl) ?_
    refine lv_bipush (v := 24) hx hb dX0_survey_7 (by decide) ?_
    refine lv_icmp_le (tgt := 15) hx hb dX0_survey_9 (by decide) (fun c2 => ?_) (fun c2 => ?_)
    · refine lv_iload_n hx hb dX0_survey_15 rfl (lv_at hl 1 rfl) ?_
      refine lv_if_lt (tgt := 23) hx hb dX0_survey_16 (by decide) (fun c3 => ?_) (fun c3 => ?_)
      · refine lv_bipush (v := (-3)) hx hb dX0_survey_23 (by decide) ?_
        exact W.iret (v := (-3)) hx hb hr (fun t ht hW => ⟨⟨(-3), S, rfl, (by simp only [xF_survey, if_neg c1, if_pos c2, if_pos c3]), by rw [ht]; exact hP, va_K.moved hW.alike hK⟩, hS.F ht⟩) hS.2.2 dX0_survey_25
      · refine lv_iload_n hx hb dX0_survey_19 rfl (lv_at hl 2 rfl) ?_
        refine lv_if_ge (tgt := 26) hx hb dX0_survey_20 (by decide) (fun c4 => ?_) (fun c4 => ?_)
        · refine lv_iconst (v := 0) hx hb dX0_survey_26 (by decide) ?_
          refine lv_istore_n (lv' := [(3, .int 0), (0, .ref (xa a)), (1, .int p1), (2, .int p2)]) hx hb dX0_survey_27 rfl hl (by decide) rfl (fun ls hl => ?_)
          exact loop 25 0 0 S _ _ ls (by decide) (by decide) nI_0.symm hP hS (lv_sub hl [0, 1, 2, 3] rfl) (by simp only [xF_survey, if_neg c1, if_pos c2, if_neg c3, if_pos c4]) c1
        · refine lv_bipush (v := (-3)) hx hb dX0_survey_23 (by decide) ?_
          exact W.iret (v := (-3)) hx hb hr (fun t ht hW => ⟨⟨(-3), S, rfl, (by simp only [xF_survey, if_neg c1, if_pos c2, if_neg c3, if_neg c4]), by rw [ht]; exact hP, va_K.moved hW.alike hK⟩, hS.F ht⟩) hS.2.2 dX0_survey_25
    · refine lv_bipush (v := (-2)) hx hb dX0_survey_12 (by decide) ?_
      exact W.iret (v := (-2)) hx hb hr (fun t ht hW => ⟨⟨(-2), S, rfl, (by simp only [xF_survey, if_neg c1, if_neg c2]), by rw [ht]; exact hP, va_K.moved hW.alike hK⟩, hS.F ht⟩) hS.2.2 dX0_survey_14
/-- booksKept's loop -/
def xF_keptL (S : XS) : Nat → Int32 → Int32 → Int32
  | 0, _, z => z
  | n + 1, i, z => if 5 ≤ i then z else if xc S i = -1 then xF_keptL S n (i + 1) z else xF_keptL S n (i + 1) (z + 1)
def xF_booksKept (S : XS) : Int32 := (xF_keptL S 6 0 0)
theorem hdX0_booksKept : yX0_booksKept.cls = RX0 ∧ yX0_booksKept.cls ≠ "java/lang/invoke/MethodHandle" ∧ yX0_booksKept.cls ≠ "java/lang/invoke/VarHandle" ∧ (parseMethodDescriptor yX0_booksKept.desc).map (fun d => d.parameters.length) = some 0 := by decide +kernel
set_option maxHeartbeats 4000000 in
set_option maxRecDepth 100000 in
theorem c_X0_booksKept (l : Launch) (D : va_G) (a : XA) (hO : xOk a) (S : XS) : Met l yX0_booksKept wsX0_booksKept ({ frames := 0, cells := 0, slots := 0, locals := 0 }) (va_Pc [.ref (xa a)] (xB D a S)) (va_Qi (fun (r : Int32) (u : XS) => xF_booksKept S = r ∧ u = S) (xB D a) (xA a)) 0 0 (xA a) := by
  refine Met.ofW (cc := cX0_booksKept) (maxL := 3) (ret := (some .int)) (by decide) rfl ?_
  intro p e s m args below meth c s₁ B hml hv
  obtain ⟨rfl, hP, hK⟩ := hv
  have hx := B.exec
  have hb := B.bytes
  have hr := B.returns
  have hts := atoms_spec (ws := wsX0_booksKept) B.pre
  have hown : s.vm.findClass RX0 = some m.cls := findClass_of_methodNamed B.named
  have hlocks := B.notSynchronized
  have hS : va_S (xA a) s.heap s.heap [] := va_S.rf
  have hP : va_P D vwCl (xW a S) s.heap := hP
  have hu : ∀ w ∈ wsX00, w ∈ wsX0_booksKept := fun _ h => List.mem_cons_of_mem _ (List.mem_append_right _ h)
  have hf9 := hts (.fieldLink RX0 9 "FlightBooks" "lineCounts" "[I") (by decide +kernel)
  have loop : ∀ (n k : Nat) (i z : Int32) (H : Heap) (locs : List Loc) (ls : Array Slot), k ≤ 5 → 6 ≤ k + n → i = nI k → va_P D vwCl (xW a S) H → va_S (xA a) s.heap H locs → lv_has ls 3 [(2, .int i), (1, .int z), (0, .ref (xa a))] → xF_booksKept S = xF_keptL S n i z → W p l e (headSpec wsX0_booksKept ({ frames := 0, cells := 0, slots := 0, locals := 0 })).room s m [.ref (xa a)].toArray below meth c H locs 0 0 (MQ below (va_Qi (fun (r : Int32) (u : XS) => xF_booksKept S = r ∧ u = S) (xB D a) (xA a)) [.ref (xa a)].toArray s 0 0 (xA a)) (F0 m 4 ls []) := by
    intro n
    induction n with
    | zero =>
      intro k i z H locs ls h1 h2
      exact absurd h2 (by omega)
    | succ n ih =>
      intro k i z H locs ls hk hkn ei hP hS hl hF
      refine lv_iload_n hx hb dX0_booksKept_4 rfl (lv_at hl 0 rfl) ?_
      refine lv_iconst (v := 5) hx hb dX0_booksKept_5 (by decide) ?_
      refine lv_icmp_ge (tgt := 28) hx hb dX0_booksKept_6 (by decide) (fun c1 => ?_) (fun c1 => ?_)
      · refine lv_iload_n hx hb dX0_booksKept_28 rfl (lv_at hl 1 rfl) ?_
        exact W.iret (v := z) hx hb hr (fun t ht hW => ⟨⟨z, S, rfl, ⟨(hF.trans (by simp only [xF_keptL, if_pos c1])), rfl⟩, by rw [ht]; exact hP, va_K.moved hW.alike hK⟩, hS.F ht⟩) hS.2.2 dX0_booksKept_29
      · obtain ⟨hin, hkk⟩ := xl_in (N := 5) (by decide) hk ei (by decide) c1
        refine lv_aload_n hx hb dX0_booksKept_9 rfl (lv_at hl 2 rfl) ?_
        refine x_get hx hb hts hu hown hK hP 1 (by decide) hf9 rfl (v := .ref (xac a)) rfl dX0_booksKept_10 ?_
        refine lv_iload_n hx hb dX0_booksKept_13 rfl (lv_at hl 0 rfl) ?_
        refine x_ldc hx hb hK hP hin dX0_booksKept_14 ?_
        refine lv_iconst (v := (-1)) hx hb dX0_booksKept_15 (by decide) ?_
        refine lv_icmp_eq (tgt := 22) hx hb dX0_booksKept_16 (by decide) (fun c2 => ?_) (fun c2 => ?_)
        · refine lv_iinc (v := (i + 1)) (lv' := [(2, .int (i + 1)), (1, .int z), (0, .ref (xa a))]) hx hb dX0_booksKept_22 hl (k := 0) rfl rfl (by decide) rfl (fun ls hl => ?_)
          refine lv_goto (tgt := 4) hx hb dX0_booksKept_25 (by decide) ?_
          exact ih (k + 1) (i + 1) z _ _ ls hkk (by omega) (by rw [ei]; exact nI_1 k) hP hS (lv_sub hl [0, 1, 2] rfl) (hF.trans (by simp only [xF_keptL, if_neg c1, if_pos c2]))
        · refine lv_iinc (v := (z + 1)) (lv' := [(1, .int (z + 1)), (2, .int i), (0, .ref (xa a))]) hx hb dX0_booksKept_19 hl (k := 1) rfl rfl (by decide) rfl (fun ls hl => ?_)
          refine lv_iinc (v := (i + 1)) (lv' := [(2, .int (i + 1)), (1, .int (z + 1)), (0, .ref (xa a))]) hx hb dX0_booksKept_22 hl (k := 1) rfl rfl (by decide) rfl (fun ls hl => ?_)
          refine lv_goto (tgt := 4) hx hb dX0_booksKept_25 (by decide) ?_
          exact ih (k + 1) (i + 1) (z + 1) _ _ ls hkk (by omega) (by rw [ei]; exact nI_1 k) hP hS (lv_sub hl [0, 1, 2] rfl) (hF.trans (by simp only [xF_keptL, if_neg c1, if_neg c2]))
  have hl := lv_entry ([.ref (xa a)]) (n := 3) (Nat.le_of_ble_eq_true rfl)
  rw [lg_entry_eq]
  generalize (lg_sl ([.ref (xa a)]) ++ List.replicate (3 - (lg_sl ([.ref (xa a)])).length) Slot.unset).toArray = ls at hl ⊢
  have hl : lv_has ls 3 [(0, .ref (xa a))] := hl
  refine lv_iconst (v := 0) hx hb dX0_booksKept_0 (by decide) ?_
  refine lv_istore_n (lv' := [(1, .int 0), (0, .ref (xa a))]) hx hb dX0_booksKept_1 rfl hl (by decide) rfl (fun ls hl => ?_)
  refine lv_iconst (v := 0) hx hb dX0_booksKept_2 (by decide) ?_
  refine lv_istore_n (lv' := [(2, .int 0), (1, .int 0), (0, .ref (xa a))]) hx hb dX0_booksKept_3 rfl hl (by decide) rfl (fun ls hl => ?_)
  exact loop 6 0 0 0 _ _ ls (by decide) (by decide) nI_0.symm hP hS (lv_sub hl [0, 1, 2] rfl) (by simp only [xF_booksKept])
def xF_look (S : XS) (p1 : Int32) : Int32 := (if p1 = 0 then (xN S) else (if p1 = 1 then (xBo S) else (if p1 = 2 then (xEo S) else (if p1 = 3 then (xFc S) else (if p1 = 4 then (xLf S) else (if p1 = 5 then (xF_booksKept S ) else (-300000)))))))
theorem hdX0_look : yX0_look.cls = RX0 ∧ yX0_look.cls ≠ "java/lang/invoke/MethodHandle" ∧ yX0_look.cls ≠ "java/lang/invoke/VarHandle" ∧ (parseMethodDescriptor yX0_look.desc).map (fun d => d.parameters.length) = some 1 := by decide +kernel
set_option maxHeartbeats 4000000 in
set_option maxRecDepth 100000 in
theorem c_X0_look (l : Launch) (D : va_G) (a : XA) (hO : xOk a) (S : XS) (p1 : Int32) : Met l yX0_look wsX0_look ({ frames := 1, cells := 0, slots := 0, locals := 22 }) (va_Pc [.ref (xa a), .int p1] (xB D a S)) (va_Qi (fun (r : Int32) (u : XS) => xF_look S p1 = r ∧ u = S) (xB D a) (xA a)) 0 0 (xA a) := by
  refine Met.ofW (cc := cX0_look) (maxL := 2) (ret := (some .int)) (by decide) rfl ?_
  intro p e s m args below meth c s₁ B hml hv
  obtain ⟨rfl, hP, hK⟩ := hv
  have hx := B.exec
  have hb := B.bytes
  have hr := B.returns
  have hts := atoms_spec (ws := wsX0_look) B.pre
  have hown : s.vm.findClass RX0 = some m.cls := findClass_of_methodNamed B.named
  have hlocks := B.notSynchronized
  have hS : va_S (xA a) s.heap s.heap [] := va_S.rf
  have hP : va_P D vwCl (xW a S) s.heap := hP
  have hu : ∀ w ∈ wsX00, w ∈ wsX0_look := fun _ h => List.mem_cons_of_mem _ (List.mem_append_right _ h)
  have hf44 := hts (.fieldLink RX0 44 "FlightBooks" "chamberCount" "I") (by decide +kernel)
  have hf28 := hts (.fieldLink RX0 28 "FlightBooks" "bargesOut" "I") (by decide +kernel)
  have hf31 := hts (.fieldLink RX0 31 "FlightBooks" "eighthsOut" "I") (by decide +kernel)
  have hf34 := hts (.fieldLink RX0 34 "FlightBooks" "faultCount" "I") (by decide +kernel)
  have hf37 := hts (.fieldLink RX0 37 "FlightBooks" "latestFault" "I") (by decide +kernel)
  have hk57 := hts (.constant RX0 57 (-300000)) (by decide +kernel)
  have hl := lv_entry ([.ref (xa a), .int p1]) (n := 2) (Nat.le_of_ble_eq_true rfl)
  rw [lg_entry_eq]
  generalize (lg_sl ([.ref (xa a), .int p1]) ++ List.replicate (2 - (lg_sl ([.ref (xa a), .int p1])).length) Slot.unset).toArray = ls at hl ⊢
  have hl : lv_has ls 2 [(0, .ref (xa a)), (1, .int p1)] := hl
  refine lv_iload_n hx hb dX0_look_0 rfl (lv_at hl 1 rfl) ?_
  by_cases c1 : p1 = 0
  · refine lv_tableIn (tgt := 40) hx hb dX0_look_1 (by rw [c1]; decide) (by rw [c1]; decide) (by rw [c1]; rfl) (by decide) ?_
    refine lv_aload_n hx hb dX0_look_40 rfl (lv_at hl 0 rfl) ?_
    refine x_get hx hb hts hu hown hK hP 0 (by decide) hf44 rfl (v := .int (xN S)) rfl dX0_look_41 ?_
    exact W.iret (v := (xN S)) hx hb hr (fun t ht hW => ⟨⟨(xN S), S, rfl, ⟨(by simp only [xF_look, if_pos c1]), rfl⟩, by rw [ht]; exact hP, va_K.moved hW.alike hK⟩, hS.F ht⟩) hS.2.2 dX0_look_44
  · skip
    by_cases c2 : p1 = 1
    · refine lv_tableIn (tgt := 45) hx hb dX0_look_1 (by rw [c2]; decide) (by rw [c2]; decide) (by rw [c2]; rfl) (by decide) ?_
      refine lv_aload_n hx hb dX0_look_45 rfl (lv_at hl 0 rfl) ?_
      refine x_get hx hb hts hu hown hK hP 6 (by decide) hf28 rfl (v := .int (xBo S)) rfl dX0_look_46 ?_
      exact W.iret (v := (xBo S)) hx hb hr (fun t ht hW => ⟨⟨(xBo S), S, rfl, ⟨(by simp only [xF_look, if_pos c2, if_neg c1]), rfl⟩, by rw [ht]; exact hP, va_K.moved hW.alike hK⟩, hS.F ht⟩) hS.2.2 dX0_look_49
    · skip
      by_cases c3 : p1 = 2
      · refine lv_tableIn (tgt := 50) hx hb dX0_look_1 (by rw [c3]; decide) (by rw [c3]; decide) (by rw [c3]; rfl) (by decide) ?_
        refine lv_aload_n hx hb dX0_look_50 rfl (lv_at hl 0 rfl) ?_
        refine x_get hx hb hts hu hown hK hP 7 (by decide) hf31 rfl (v := .int (xEo S)) rfl dX0_look_51 ?_
        exact W.iret (v := (xEo S)) hx hb hr (fun t ht hW => ⟨⟨(xEo S), S, rfl, ⟨(by simp only [xF_look, if_pos c3, if_neg c1, if_neg c2]), rfl⟩, by rw [ht]; exact hP, va_K.moved hW.alike hK⟩, hS.F ht⟩) hS.2.2 dX0_look_54
      · skip
        by_cases c4 : p1 = 3
        · refine lv_tableIn (tgt := 55) hx hb dX0_look_1 (by rw [c4]; decide) (by rw [c4]; decide) (by rw [c4]; rfl) (by decide) ?_
          refine lv_aload_n hx hb dX0_look_55 rfl (lv_at hl 0 rfl) ?_
          refine x_get hx hb hts hu hown hK hP 8 (by decide) hf34 rfl (v := .int (xFc S)) rfl dX0_look_56 ?_
          exact W.iret (v := (xFc S)) hx hb hr (fun t ht hW => ⟨⟨(xFc S), S, rfl, ⟨(by simp only [xF_look, if_pos c4, if_neg c1, if_neg c2, if_neg c3]), rfl⟩, by rw [ht]; exact hP, va_K.moved hW.alike hK⟩, hS.F ht⟩) hS.2.2 dX0_look_59
        · skip
          by_cases c5 : p1 = 4
          · refine lv_tableIn (tgt := 60) hx hb dX0_look_1 (by rw [c5]; decide) (by rw [c5]; decide) (by rw [c5]; rfl) (by decide) ?_
            refine lv_aload_n hx hb dX0_look_60 rfl (lv_at hl 0 rfl) ?_
            refine x_get hx hb hts hu hown hK hP 9 (by decide) hf37 rfl (v := .int (xLf S)) rfl dX0_look_61 ?_
            exact W.iret (v := (xLf S)) hx hb hr (fun t ht hW => ⟨⟨(xLf S), S, rfl, ⟨(by simp only [xF_look, if_pos c5, if_neg c1, if_neg c2, if_neg c3, if_neg c4]), rfl⟩, by rw [ht]; exact hP, va_K.moved hW.alike hK⟩, hS.F ht⟩) hS.2.2 dX0_look_64
          · skip
            by_cases c6 : p1 = 5
            · refine lv_tableIn (tgt := 65) hx hb dX0_look_1 (by rw [c6]; decide) (by rw [c6]; decide) (by rw [c6]; rfl) (by decide) ?_
              refine lv_aload_n hx hb dX0_look_65 rfl (lv_at hl 0 rfl) ?_
              refine va_calli (va_runV (As := []) (rest := []) ⟨hx, hb, hml, hown, hts⟩ (c_X0_booksKept l D a hO S ) (cwV 0 hts gX0_look_X0_booksKept rfl rfl rfl hdX0_booksKept ⟨Nat.le_of_ble_eq_true rfl, Nat.le_of_ble_eq_true rfl⟩) (xPreV hK hP) rfl rfl hl.1 rfl (lv_room (Nat.le_of_ble_eq_true rfl)) dX0_look_66 ⟨Nat.zero_le _, Nat.zero_le _⟩) hS (fun q _ h => h) (fun q h => h) (fun r7 S7 t H1 locs ht hvm hw7 hB hz1 hk1 hS => ?_)
              obtain ⟨hP, -⟩ := hB
              rw [ht] at hP
              obtain ⟨hw7, hSe7⟩ := hw7
              rw [hSe7] at hP
              exact W.iret (v := r7) hx hb hr (fun t ht hW => ⟨⟨r7, S, rfl, ⟨(by simp only [xF_look, if_pos c6, if_neg c1, if_neg c2, if_neg c3, if_neg c4, if_neg c5, hw7]), rfl⟩, by rw [ht]; exact hP, va_K.moved hW.alike hK⟩, hS.F ht⟩) hS.2.2 dX0_look_69
            · skip
              have nc1 := lv_neT c1 (a := 0) (by decide)
              have nc2 := lv_neT c2 (a := 1) (by decide)
              have nc3 := lv_neT c3 (a := 2) (by decide)
              have nc4 := lv_neT c4 (a := 3) (by decide)
              have nc5 := lv_neT c5 (a := 4) (by decide)
              have nc6 := lv_neT c6 (a := 5) (by decide)
              refine lv_tableOut (tgt := 70) hx hb dX0_look_1 (by omega) (by decide) ?_
              refine lv_ldc (v := (-300000)) hx hb hown hk57 dX0_look_70 ?_
              exact W.iret (v := (-300000)) hx hb hr (fun t ht hW => ⟨⟨(-300000), S, rfl, ⟨(by simp only [xF_look, if_neg c1, if_neg c2, if_neg c3, if_neg c4, if_neg c5, if_neg c6]), rfl⟩, by rw [ht]; exact hP, va_K.moved hW.alike hK⟩, hS.F ht⟩) hS.2.2 dX0_look_72
