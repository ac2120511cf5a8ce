/-! constructors -/
theorem newa_int (n : Nat) (c : ClassId) : vp_cell c (n, .inl (fun _ => 0)) = arrV c n (fun _ => defaultValue .int) := rfl
theorem RA_inj {U : State} {c1 c2 : ClassId} (h1 : va_RA U c1 .int) (h2 : va_RA U c2 .int) : c2 = c1 := by
  have g1 : U.vm.findClass ("[" ++ FieldType.int.toString) = some c1 := h1
  have g2 : U.vm.findClass ("[" ++ FieldType.int.toString) = some c2 := h2
  exact Option.some.inj (g2.symm.trans g1)
theorem RA_injA {U : State} {c1 c2 : ClassId} (h1 : va_RA U c1 (.array .int)) (h2 : va_RA U c2 (.array .int)) : c2 = c1 := by
  have g1 : U.vm.findClass ("[" ++ (FieldType.array .int).toString) = some c1 := h1
  have g2 : U.vm.findClass ("[" ++ (FieldType.array .int).toString) = some c2 := h2
  exact Option.some.inj (g2.symm.trans g1)
theorem mOk_of {A : Nat → Prop} {a : MA} {S : MS} (hD : va_D A (mW a S)) : mOk a := fun i j x hi hj => by
  have e : (mW a S).map Prod.fst = mL a := rfl
  rw [← e, List.getElem?_map] at hi hj
  obtain ⟨p, hp, rfl⟩ := Option.map_eq_some_iff.mp hi
  obtain ⟨q, hq, h2⟩ := Option.map_eq_some_iff.mp hj
  exact hD.1 i j p q hp hq h2.symm
theorem mA_of {A : Nat → Prop} {a : MA} {S : MS} (hD : va_D A (mW a S)) (q : Nat) (h : mA a q) : A q := by
  have e : (mW a S).map Prod.fst = mL a := rfl
  have h : q ∈ mL a := h
  rw [← e] at h
  obtain ⟨p, hp, rfl⟩ := List.mem_map.mp h
  obtain ⟨k, hk⟩ := List.getElem?_of_mem hp
  exact hD.2 k p hk
theorem xOk_of {A : Nat → Prop} {a : XA} {S : XS} (hD : va_D A (xW a S)) : xOk a := fun i j x hi hj => by
  rw [← xW_addr a S, List.getElem?_map] at hi hj
  obtain ⟨p, hp, rfl⟩ := Option.map_eq_some_iff.mp hi
  obtain ⟨q, hq, h2⟩ := Option.map_eq_some_iff.mp hj
  exact hD.1 i j p q hp hq h2.symm
theorem xA_of {A : Nat → Prop} {a : XA} {S : XS} (hD : va_D A (xW a S)) (q : Nat) (h : xA a q) : A q := by
  have h : q ∈ xL a := h
  rw [← xW_addr a S] at h
  obtain ⟨p, hp, rfl⟩ := List.mem_map.mp h
  obtain ⟨k, hk⟩ := List.getElem?_of_mem hp
  exact hD.2 k p hk
theorem mD9 {A : Nat → Prop} {a : MA} {S : MS} (hD : va_D A (mW a S)) (S' : MS) : va_D A (mW a S') := by
  refine ⟨fun i j x y hi hj h => ?_, fun k q hk => mA_of hD q.1 (List.mem_map.mpr ⟨q, List.mem_of_getElem? hk, rfl⟩)⟩
  have e := (mD (mOk_of hD) S').1
  exact e i j x y hi hj h
def mF_init (p1 : Int32) : MS := ((if 1 ≤ p1 then (if p1 ≤ 24 then p1 else 24) else 1), fun _ => (-1), fun _ => 0, fun _ => 0, 0, 0, 0, 0, 0, 0, 0, 0)
def mZ : List Value := [.int 0, .null, .null, .null, .int 0, .int 0, .int 0, .int 0, .int 0, .int 0, .int 0, .int 0]
abbrev iA (h0 sz : Nat) : Nat → Prop := fun q => q = h0 ∨ sz ≤ q
set_option maxHeartbeats 4000000 in
set_option maxRecDepth 100000 in
theorem c_X1_init (l : Launch) (D : va_G) (h0 sz : Nat) (p1 : Int32) : Met l yX1_init wsX1_init ({ frames := 1, cells := 3, slots := 701, locals := 20 }) (va_Pc [.ref h0, .int p1] (fun U => U.heap.size = sz ∧ va_P D vwCl [(h0, .inr (1, mZ))] U.heap ∧ va_K D vwCl [] U)) (va_Qv (fun (u : MA) => ma u = h0 ∧ mOk u ∧ ∀ q, mA u q → iA h0 sz q) (fun u t => mB D u (mF_init p1) t) (iA h0 sz)) 3 701 (iA h0 sz) := by
  refine Met.ofW (cc := cX1_init) (maxL := 3) (ret := none) (by decide) rfl ?_
  intro p e s m args below meth c s₁ B hml hv
  obtain ⟨rfl, hsz, hP, hK⟩ := hv
  subst hsz
  have hx := B.exec
  have hb := B.bytes
  have hr := B.returns
  have hts := atoms_spec (ws := wsX1_init) B.pre
  have hown : s.vm.findClass RX1 = some m.cls := findClass_of_methodNamed B.named
  have hlocks := B.notSynchronized
  have hin : meth.name = "<init>" := (name_of_methodNamed B.named B.method).1
  have hu : ∀ w ∈ wsX10, w ∈ wsX1_init := fun _ h => List.mem_cons_of_mem _ (List.mem_append_right _ h)
  have hA : ∀ q : Nat, s.heap.size ≤ q → iA h0 s.heap.size q := fun q h => Or.inr h
  have hS : va_S (iA h0 s.heap.size) s.heap s.heap [] := va_S.rf
  have hP : va_P D vwCl [(h0, .inr (1, [.int 0, .null, .null, .null, .int 0, .int 0, .int 0, .int 0, .int 0, .int 0, .int 0, .int 0]))] s.heap := hP
  have hD : va_D (iA h0 s.heap.size) [(h0, .inr (1, [.int 0, .null, .null, .null, .int 0, .int 0, .int 0, .int 0, .int 0, .int 0, .int 0, .int 0]))] := ⟨fun i j x y hi hj _ => by
    have h1 : i < 1 := (List.getElem?_eq_some_iff.mp hi).1
    have h2 : j < 1 := (List.getElem?_eq_some_iff.mp hj).1
    omega, fun k x hk => by
    have h1 : k < 1 := (List.getElem?_eq_some_iff.mp hk).1
    rw [show k = 0 by omega] at hk
    cases hk
    exact Or.inl rfl⟩
  have hl := lv_entry ([.ref h0, .int p1]) (n := 3) (Nat.le_of_ble_eq_true rfl)
  rw [lg_entry_eq]
  generalize (lg_sl ([.ref h0, .int p1]) ++ List.replicate (3 - (lg_sl ([.ref h0, .int p1])).length) Slot.unset).toArray = ls at hl ⊢
  have hl : lv_has ls 3 [(0, .ref h0), (1, .int p1)] := hl
  have loop : ∀ (n k : Nat) (i N : Int32) (C : Nat → Int32) (q1 q2 q3 : Nat) (c1 : ClassId) (H : Heap) (locs : List Loc) (ls : Array Slot), k ≤ 5 → 6 ≤ k + n → i = nI k → (∀ j, j < k → C j = -1) → N = (mF_init p1).1 → va_K D vwCl [(c1, .int)] s → va_P D vwCl (mW (h0, q1, q2, q3, c1) (N, C, fun _ => 0, fun _ => 0, 0, 0, 0, 0, 0, 0, 0, 0)) H → (∀ S : MS, va_D (iA h0 s.heap.size) (mW (h0, q1, q2, q3, c1) S)) → va_S (iA h0 s.heap.size) s.heap H locs → lv_has ls 3 [(2, .int i), (0, .ref h0), (1, .int p1)] → W p l e (headSpec wsX1_init ({ frames := 1, cells := 3, slots := 701, locals := 20 })).room s m [Value.ref h0, Value.int p1].toArray below meth c H locs 3 701 (MQ below (va_Qv (fun (u : MA) => ma u = h0 ∧ mOk u ∧ ∀ q, mA u q → iA h0 s.heap.size q) (fun u t => mB D u (mF_init p1) t) (iA h0 s.heap.size)) [Value.ref h0, Value.int p1].toArray s 3 701 (iA h0 s.heap.size)) (F0 m 55 ls []) := by
    intro n
    induction n with
    | zero =>
      intro k i N C q1 q2 q3 c1 H locs ls h1 h2
      exact absurd h2 (by omega)
    | succ n ih =>
      intro k i N C q1 q2 q3 c1 H locs ls hk hkn ei hC hN hK hP hD hS hl
      refine lv_iload_n hx hb dX1_init_55 rfl (lv_at hl 0 rfl) ?_
      refine lv_iconst (v := 5) hx hb dX1_init_56 (by decide) ?_
      refine lv_icmp_ge (tgt := 73) hx hb dX1_init_57 (by decide) (fun c9 => ?_) (fun c9 => ?_)
      · have hk5 : k = 5 := by
          rw [ei, show (5 : Int32) = nI 5 by decide, nI_leI (by decide) (by omega)] at c9
          omega
        have hP9 : va_P D vwCl (mW (h0, q1, q2, q3, c1) (mF_init p1)) H := by
          intro j x hj
          have h4 : j < 4 := (List.getElem?_eq_some_iff.mp hj).1
          rcases (show j = 0 ∨ j = 1 ∨ j = 2 ∨ j = 3 by omega) with rfl | rfl | rfl | rfl
          · cases hj
            have h := hP 0 _ rfl
            rw [hN] at h
            exact h
          · cases hj
            have h := hP 1 _ rfl
            show H[q1]? = some (vp_cell c1 (5, .inl (fun _ => (-1))))
            rw [← cell_ext (g := C) (fun j hj => hC j (by omega))]
            exact h
          · cases hj
            exact hP 2 _ rfl
          · cases hj
            exact hP 3 _ rfl
        exact W.vret hx hb hr (fun t ht hW => ⟨⟨(h0, q1, q2, q3, c1), rfl, ⟨rfl, mOk_of (hD (mF_init p1)), mA_of (hD (mF_init p1))⟩, by rw [ht]; exact hP9, va_K.moved hW.alike hK⟩, hS.F ht⟩) hS.2.2 dX1_init_73
      · obtain ⟨hin5, hkk⟩ := xl_in (N := 5) (by decide) hk ei (by decide) c9
        refine lv_aload_n hx hb dX1_init_60 rfl (lv_at hl 1 rfl) ?_
        refine m_get hx hb hts hu hown hK hP 1 (by decide) (hts (.fieldLink RX1 7 "FlightBooksModel" "many" "[I") (by decide +kernel)) rfl (v := .ref q1) rfl dX1_init_61 ?_
        refine lv_iload_n hx hb dX1_init_64 rfl (lv_at hl 0 rfl) ?_
        refine lv_iconst (v := (-1)) hx hb dX1_init_65 (by decide) ?_
        refine va_iast hx hb hK hP (hD _) hS 1 0 rfl rfl hin5 dX1_init_66 (fun H locs hP _ hS => ?_)
        refine lv_iinc (v := (i + 1)) (lv' := [(2, .int (i + 1)), (0, .ref h0), (1, .int p1)]) hx hb dX1_init_67 hl (k := 0) rfl rfl (by decide) rfl (fun ls hl => ?_)
        refine lv_goto (tgt := 55) hx hb dX1_init_70 (by decide) ?_
        refine ih (k + 1) (i + 1) N (upd C i.toNatClampNeg (-1)) q1 q2 q3 c1 H locs ls hkk (by omega) (by rw [ei]; exact nI_1 k) (fun j hj => ?_) hN hK hP hD hS hl
        rw [ei, nI_clamp (by omega)]
        by_cases h : j = k
        · rw [h]; exact pk_us
        · rw [pk_un h]; exact hC j (by omega)
  refine lv_aload_n hx hb dX1_init_0 rfl (lv_at hl 0 rfl) ?_
  refine W.objInit hx hb hown (hts (.methodLink RX1 1 objectInit) (by decide +kernel)) (hts (.instanceMethod objectInit) (by decide +kernel)) (hts _ (List.mem_cons_of_mem _ (List.mem_append_left _ (List.mem_of_getElem? (i := 2) rfl)))) rfl (by rw [hml]; exact hl.1) rfl dX1_init_1 (Nat.le_of_ble_eq_true rfl) (Nat.le_of_ble_eq_true rfl) ?_
  refine W.eq (g2 := F0 m 4 ls []) rfl ?_
  have harr := hts (.arrayClass .int) (by decide +kernel)
  refine lv_aload_n hx hb dX1_init_4 rfl (lv_at hl 0 rfl) ?_
  refine lv_iconst (v := 5) hx hb dX1_init_5 (by decide) ?_
  refine va_newa (atype := .int) (ty := .int) (a0 := (5, .inl (fun _ => 0))) hx hb harr rfl hK hP hD hS hA (newa_int 5) (by decide +kernel) (N' := 5) (by decide +kernel) (by decide +kernel) (Nat.le_of_ble_eq_true rfl) (Nat.le_of_ble_eq_true rfl) dX1_init_6 (fun q1 c1 H hK hP hD hS => ?_)
  have hK : va_K D vwCl [(c1, .int)] s := hK
  have hP : va_P D vwCl [(h0, .inr (1, [.int 0, .null, .null, .null, .int 0, .int 0, .int 0, .int 0, .int 0, .int 0, .int 0, .int 0])), (q1, .inl (c1, 5, .inl (fun _ => 0)))] H := hP
  have hD : va_D (iA h0 s.heap.size) [(h0, .inr (1, [.int 0, .null, .null, .null, .int 0, .int 0, .int 0, .int 0, .int 0, .int 0, .int 0, .int 0])), (q1, .inl (c1, 5, .inl (fun _ => 0)))] := hD
  refine W.widen (k := 1) (n := 5) (by decide) (by decide) ?_
  refine va_putF (D := D) (ci := 1) (v := .ref q1) (ty := .array .int) (C := RX1) (T := TX1) (N := 12) hx hb hts hu tyX1 tyX1_ok nmX1 hown hK hP hD hS 0 rfl rfl 1 (by decide) (hts (.fieldLink RX1 7 "FlightBooksModel" "many" "[I") (by decide +kernel)) (fun _ h9 => h9) rfl hin rfl (by decide +kernel) rfl rfl (Nat.le_of_ble_eq_true rfl) dX1_init_8 (fun H locs hP hD hS => ?_)
  have hP : va_P D vwCl [(h0, .inr (1, [.int 0, .ref q1, .null, .null, .int 0, .int 0, .int 0, .int 0, .int 0, .int 0, .int 0, .int 0])), (q1, .inl (c1, 5, .inl (fun _ => 0)))] H := hP
  have hD : va_D (iA h0 s.heap.size) [(h0, .inr (1, [.int 0, .ref q1, .null, .null, .int 0, .int 0, .int 0, .int 0, .int 0, .int 0, .int 0, .int 0])), (q1, .inl (c1, 5, .inl (fun _ => 0)))] := hD
  refine lv_aload_n hx hb dX1_init_11 rfl (lv_at hl 0 rfl) ?_
  refine lv_bipush (v := 120) hx hb dX1_init_12 (by decide) ?_
  refine va_newa (atype := .int) (ty := .int) (a0 := (120, .inl (fun _ => 0))) hx hb harr rfl hK hP hD hS hA (newa_int 120) (by decide +kernel) (N' := 120) (by decide +kernel) (by decide +kernel) (Nat.le_of_ble_eq_true rfl) (Nat.le_of_ble_eq_true rfl) dX1_init_14 (fun q2 c2 H hK hP hD hS => ?_)
  have ec2 : c2 = c1 := RA_inj (hK.2 0 _ rfl).2 (hK.2 1 _ rfl).2
  subst ec2
  have hK : va_K D vwCl [(c2, .int)] s := hK.sub [0] rfl
  have hP : va_P D vwCl [(h0, .inr (1, [.int 0, .ref q1, .null, .null, .int 0, .int 0, .int 0, .int 0, .int 0, .int 0, .int 0, .int 0])), (q1, .inl (c2, 5, .inl (fun _ => 0))), (q2, .inl (c2, 120, .inl (fun _ => 0)))] H := hP
  have hD : va_D (iA h0 s.heap.size) [(h0, .inr (1, [.int 0, .ref q1, .null, .null, .int 0, .int 0, .int 0, .int 0, .int 0, .int 0, .int 0, .int 0])), (q1, .inl (c2, 5, .inl (fun _ => 0))), (q2, .inl (c2, 120, .inl (fun _ => 0)))] := hD
  refine W.widen (k := 2) (n := 125) (by decide) (by decide) ?_
  refine va_putF (D := D) (ci := 1) (v := .ref q2) (ty := .array .int) (C := RX1) (T := TX1) (N := 12) hx hb hts hu tyX1 tyX1_ok nmX1 hown hK hP hD hS 0 rfl rfl 2 (by decide) (hts (.fieldLink RX1 13 "FlightBooksModel" "cells" "[I") (by decide +kernel)) (fun _ h9 => h9) rfl hin rfl (by decide +kernel) rfl rfl (Nat.le_of_ble_eq_true rfl) dX1_init_16 (fun H locs hP hD hS => ?_)
  have hP : va_P D vwCl [(h0, .inr (1, [.int 0, .ref q1, .ref q2, .null, .int 0, .int 0, .int 0, .int 0, .int 0, .int 0, .int 0, .int 0])), (q1, .inl (c2, 5, .inl (fun _ => 0))), (q2, .inl (c2, 120, .inl (fun _ => 0)))] H := hP
  have hD : va_D (iA h0 s.heap.size) [(h0, .inr (1, [.int 0, .ref q1, .ref q2, .null, .int 0, .int 0, .int 0, .int 0, .int 0, .int 0, .int 0, .int 0])), (q1, .inl (c2, 5, .inl (fun _ => 0))), (q2, .inl (c2, 120, .inl (fun _ => 0)))] := hD
  refine lv_aload_n hx hb dX1_init_19 rfl (lv_at hl 0 rfl) ?_
  refine lv_sipush (v := 576) hx hb dX1_init_20 (by decide) ?_
  refine va_newa (atype := .int) (ty := .int) (a0 := (576, .inl (fun _ => 0))) hx hb harr rfl hK hP hD hS hA (newa_int 576) (by decide +kernel) (N' := 576) (by decide +kernel) (by decide +kernel) (Nat.le_of_ble_eq_true rfl) (Nat.le_of_ble_eq_true rfl) dX1_init_23 (fun q3 c3 H hK hP hD hS => ?_)
  have ec3 : c3 = c2 := RA_inj (hK.2 0 _ rfl).2 (hK.2 1 _ rfl).2
  subst ec3
  have hK : va_K D vwCl [(c3, .int)] s := hK.sub [0] rfl
  have hP : va_P D vwCl [(h0, .inr (1, [.int 0, .ref q1, .ref q2, .null, .int 0, .int 0, .int 0, .int 0, .int 0, .int 0, .int 0, .int 0])), (q1, .inl (c3, 5, .inl (fun _ => 0))), (q2, .inl (c3, 120, .inl (fun _ => 0))), (q3, .inl (c3, 576, .inl (fun _ => 0)))] H := hP
  have hD : va_D (iA h0 s.heap.size) [(h0, .inr (1, [.int 0, .ref q1, .ref q2, .null, .int 0, .int 0, .int 0, .int 0, .int 0, .int 0, .int 0, .int 0])), (q1, .inl (c3, 5, .inl (fun _ => 0))), (q2, .inl (c3, 120, .inl (fun _ => 0))), (q3, .inl (c3, 576, .inl (fun _ => 0)))] := hD
  refine W.widen (k := 3) (n := 701) (by decide) (by decide) ?_
  refine va_putF (D := D) (ci := 1) (v := .ref q3) (ty := .array .int) (C := RX1) (T := TX1) (N := 12) hx hb hts hu tyX1 tyX1_ok nmX1 hown hK hP hD hS 0 rfl rfl 3 (by decide) (hts (.fieldLink RX1 16 "FlightBooksModel" "places" "[I") (by decide +kernel)) (fun _ h9 => h9) rfl hin rfl (by decide +kernel) rfl rfl (Nat.le_of_ble_eq_true rfl) dX1_init_25 (fun H locs hP hD hS => ?_)
  have hP : va_P D vwCl [(h0, .inr (1, [.int 0, .ref q1, .ref q2, .ref q3, .int 0, .int 0, .int 0, .int 0, .int 0, .int 0, .int 0, .int 0])), (q1, .inl (c3, 5, .inl (fun _ => 0))), (q2, .inl (c3, 120, .inl (fun _ => 0))), (q3, .inl (c3, 576, .inl (fun _ => 0)))] H := hP
  have hD : va_D (iA h0 s.heap.size) [(h0, .inr (1, [.int 0, .ref q1, .ref q2, .ref q3, .int 0, .int 0, .int 0, .int 0, .int 0, .int 0, .int 0, .int 0])), (q1, .inl (c3, 5, .inl (fun _ => 0))), (q2, .inl (c3, 120, .inl (fun _ => 0))), (q3, .inl (c3, 576, .inl (fun _ => 0)))] := hD
  refine lv_aload_n hx hb dX1_init_28 rfl (lv_at hl 0 rfl) ?_
  refine lv_iload_n hx hb dX1_init_29 rfl (lv_at hl 1 rfl) ?_
  refine lv_iconst (v := 1) hx hb dX1_init_30 (by decide) ?_
  refine lv_icmp_ge (tgt := 38) hx hb dX1_init_31 (by decide) (fun n1 => ?_) (fun n1 => ?_)
  · refine lv_iload_n hx hb dX1_init_38 rfl (lv_at hl 1 rfl) ?_
    refine lv_bipush (v := 24) hx hb dX1_init_39 (by decide) ?_
    refine lv_icmp_le (tgt := 49) hx hb dX1_init_41 (by decide) (fun n2 => ?_) (fun n2 => ?_)
    · refine lv_iload_n hx hb dX1_init_49 rfl (lv_at hl 1 rfl) ?_
      refine va_putF (D := D) (ci := 1) (v := .int p1) (ty := .int) (C := RX1) (T := TX1) (N := 12) hx hb hts hu tyX1 tyX1_ok nmX1 hown hK hP hD hS 0 rfl rfl 0 (by decide) (hts (.fieldLink RX1 19 "FlightBooksModel" "chambers" "I") (by decide +kernel)) (fun _ h9 => h9) rfl hin rfl (by decide +kernel) rfl rfl (Nat.le_of_ble_eq_true rfl) dX1_init_50 (fun H locs hP hD hS => ?_)
      refine lv_iconst (v := 0) hx hb dX1_init_53 (by decide) ?_
      refine lv_istore_n (lv' := [(2, .int 0), (0, .ref h0), (1, .int p1)]) hx hb dX1_init_54 rfl hl (by decide) rfl (fun ls hl => ?_)
      exact loop 6 0 0 p1 (fun _ => 0) q1 q2 q3 c3 H locs ls (by decide) (by decide) nI_0.symm (fun j hj => absurd hj (by omega)) (by simp only [mF_init, if_pos n1, if_pos n2]) hK hP (mD9 (a := (h0, q1, q2, q3, c3)) (S := (p1, fun _ => 0, fun _ => 0, fun _ => 0, 0, 0, 0, 0, 0, 0, 0, 0)) hD) hS hl
    · refine lv_bipush (v := 24) hx hb dX1_init_44 (by decide) ?_
      refine lv_goto (tgt := 50) hx hb dX1_init_46 (by decide) ?_
      refine va_putF (D := D) (ci := 1) (v := .int 24) (ty := .int) (C := RX1) (T := TX1) (N := 12) hx hb hts hu tyX1 tyX1_ok nmX1 hown hK hP hD hS 0 rfl rfl 0 (by decide) (hts (.fieldLink RX1 19 "FlightBooksModel" "chambers" "I") (by decide +kernel)) (fun _ h9 => h9) rfl hin rfl (by decide +kernel) rfl rfl (Nat.le_of_ble_eq_true rfl) dX1_init_50 (fun H locs hP hD hS => ?_)
      refine lv_iconst (v := 0) hx hb dX1_init_53 (by decide) ?_
      refine lv_istore_n (lv' := [(2, .int 0), (0, .ref h0), (1, .int p1)]) hx hb dX1_init_54 rfl hl (by decide) rfl (fun ls hl => ?_)
      exact loop 6 0 0 24 (fun _ => 0) q1 q2 q3 c3 H locs ls (by decide) (by decide) nI_0.symm (fun j hj => absurd hj (by omega)) (by simp only [mF_init, if_pos n1, if_neg n2]) hK hP (mD9 (a := (h0, q1, q2, q3, c3)) (S := (24, fun _ => 0, fun _ => 0, fun _ => 0, 0, 0, 0, 0, 0, 0, 0, 0)) hD) hS hl
  · refine lv_iconst (v := 1) hx hb dX1_init_34 (by decide) ?_
    refine lv_goto (tgt := 50) hx hb dX1_init_35 (by decide) ?_
    refine va_putF (D := D) (ci := 1) (v := .int 1) (ty := .int) (C := RX1) (T := TX1) (N := 12) hx hb hts hu tyX1 tyX1_ok nmX1 hown hK hP hD hS 0 rfl rfl 0 (by decide) (hts (.fieldLink RX1 19 "FlightBooksModel" "chambers" "I") (by decide +kernel)) (fun _ h9 => h9) rfl hin rfl (by decide +kernel) rfl rfl (Nat.le_of_ble_eq_true rfl) dX1_init_50 (fun H locs hP hD hS => ?_)
    refine lv_iconst (v := 0) hx hb dX1_init_53 (by decide) ?_
    refine lv_istore_n (lv' := [(2, .int 0), (0, .ref h0), (1, .int p1)]) hx hb dX1_init_54 rfl hl (by decide) rfl (fun ls hl => ?_)
    exact loop 6 0 0 1 (fun _ => 0) q1 q2 q3 c3 H locs ls (by decide) (by decide) nI_0.symm (fun j hj => absurd hj (by omega)) (by simp only [mF_init, if_neg n1]) hK hP (mD9 (a := (h0, q1, q2, q3, c3)) (S := (1, fun _ => 0, fun _ => 0, fun _ => 0, 0, 0, 0, 0, 0, 0, 0, 0)) hD) hS hl
