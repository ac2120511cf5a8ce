/-! the class' constructor -/
theorem va_AOA.moved {t : FieldType} {u U : State} (hvm : u.vm.Alike U.vm) (h : va_AOA t u) : va_AOA t U := by
  have h0 : (Cond.arrayOver (.array t)).holds #[] u none u [] = true := h
  simp only [Cond.holds, Cond.value, beq_iff_eq] at h0
  have f1 : U.vm.findClass (FieldType.array t).toString = u.vm.findClass (FieldType.array t).toString := hvm.findClass _ _
  have f2 : U.vm.findClass ("[" ++ (FieldType.array t).toString) = u.vm.findClass ("[" ++ (FieldType.array t).toString) := hvm.findClass _ _
  cases hc : u.vm.findClass (FieldType.array t).toString with
  | none => simp [hc] at h0
  | some comp =>
    simp only [hc, Option.bind_some, Option.bind_eq_some_iff, Option.map_eq_some_iff] at h0
    obtain ⟨c, hi, k, hk, hb⟩ := h0
    obtain ⟨k', hk', he⟩ := hvm.2.2 _ _ hk
    have hi' : (U.vm.classes.findIdx? fun (x : Class) => match x.kind with | .array component _ => component == comp | _ => false) = some c := by
      have hb9 : U.vm.bare = u.vm.bare := hvm.bare_eq
      have e1 := va_idx_bare U.vm comp
      have e2 := va_idx_bare u.vm comp
      rw [hb9] at e1
      exact (e1.symm.trans e2).trans hi
    show (Cond.arrayOver (.array t)).holds #[] U none U [] = true
    simp only [Cond.holds, Cond.value, beq_iff_eq]
    rw [f1, hc, Option.bind_some]
    refine (congrArg (fun o : Option Nat => (o.bind (fun c => (U.vm.classes[c]?).map fun (k : Class) => match k.kind with | .array _ ty => decide (ty = FieldType.array t) && decide (U.vm.findClass ("[" ++ (FieldType.array t).toString) = some c) | _ => false))) hi').trans ?_
    simp only [Option.bind_some, hk', Option.map_some]
    rw [he, f2]
    exact congrArg some hb
theorem inner_int (n : Nat) (c : ClassId) : Jvm.Free.Multi.innerC c n (defaultValue .int) = vp_cell c (n, .inl (fun _ => 0)) := (arrV_new c n (defaultValue .int)).trans rfl
theorem vr_const {α : Type} (e : α) (l : List Nat) : vr_up (fun _ => e) l e = fun _ => e := by
  funext a
  unfold vr_up
  split <;> rfl
def xF_init (p1 : Int32) : XS := (xF_nearest p1 1 24, fun _ => (-1), fun _ _ => 0, fun _ _ => 0, (-1), 0, 0, 0, 0, 0)
def xZ : List Value := [.int 0, .null, .null, .null, .int 0, .int 0, .int 0, .int 0, .int 0, .int 0]
section XIN
variable {p : Program} {l : Launch} {e : Env} {R : Room} {s : State} {m : MethodId} {args : Array Value} {below : List Frame} {meth : Method} {c : Code} {H : Heap} {locs : List Loc} {cells slots : Nat} {Q : State → Prop}
variable {cc : ByteArray} {pc : Nat} {ls : Array Slot} {rest : List Value} {D : va_G} {a : XA} {S : XS} {H0 : Heap} {Ts : List Cond} {A : Nat → Prop}
theorem xi_put (hexec : p.tables.exec = Jvm.exec) (hb : c.code = cc) {index : Nat} (hts : ∀ w ∈ Ts, w.before args s = true) (hin : ∀ w ∈ wsX00, w ∈ Ts) (hown : s.vm.findClass RX0 = some m.cls) (hK : va_K D vwCl (xT a) s) (hP : va_P D vwCl (xW a S) H) (hD : va_D A (xW a S)) (hS : va_S A H0 H locs) (k : Nat) (hk : k < 10) (hlink : (Cond.fieldLink RX0 index "FlightBooks" (TX0 k).2.1 (TX0 k).2.2.1).before args s = true) (hc : (TX0 k).1 = "FlightBooks") (hfin : (TX0 k).2.2.2 = false) (hd : parseFieldDescriptor (TX0 k).2.2.1 = some .int) {v : Int32} (S' : Int32 → XS) (hS' : ∀ v, xFs a (S' v) = (xFs a S).set k (.int v)) (hw : ∀ v, xW a (S' v) = (xW a S).set 0 (xa a, .inr (0, xFs a (S' v)))) (hdg : decode cc pc = .ok (.putfield index, 3))
    (kk : ∀ (H1 : Heap) (locs1 : List Loc), va_P D vwCl (xW a (S' v)) H1 → va_D A (xW a (S' v)) → va_S A H0 H1 locs1 → W p l e R s m args below meth c H1 locs1 cells slots Q (F0 m (pc + 3) ls rest)) : W p l e R s m args below meth c H locs cells slots Q (F0 m pc ls (.int v :: .ref (xa a) :: rest)) :=
  va_put (D := D) (ci := 0) (v := .int v) (ty := .int) (C := RX0) (T := TX0) (N := 10) hexec hb hts hin tyX0 tyX0_ok nmX0 hown hK hP hD hS 0 rfl rfl k hk hlink (fun x h => by rw [hc] at h; exact h) hfin hd rfl rfl hk hdg (fun H1 locs1 h1 h2 h3 => kk H1 locs1 (by rw [hw, hS']; exact h1) (by rw [hw, hS']; exact h2) h3)
end XIN
set_option maxHeartbeats 400000 in
set_option maxRecDepth 100000 in
theorem c_X0_init (l : Launch) (D : va_G) (h0 sz : Nat) (p1 : Int32) : Met l yX0_init wsX0_init ({ frames := 2, cells := 32, slots := 730, locals := 60 }) (va_Pc [.ref h0, .int p1] (fun U => U.heap.size = sz ∧ va_AOA .int U ∧ va_P D vwCl [(h0, .inr (0, xZ))] U.heap ∧ va_K D vwCl [] U)) (va_Qv (fun (u : XA) => xa u = h0 ∧ xOk u ∧ ∀ q, xA u q → iA h0 sz q) (fun u t => xB D u (xF_init p1) t) (iA h0 sz)) 32 730 (iA h0 sz) := by
  refine Met.ofW (cc := cX0_init) (maxL := 2) (ret := none) (by decide) rfl ?_
  intro p e s m args below meth c s₁ B hml hv
  obtain ⟨rfl, hsz, hAOA, hP, hK⟩ := hv
  subst hsz
  have hx := B.exec
  have hb := B.bytes
  have hr := B.returns
  have hts := atoms_spec (ws := wsX0_init) B.pre
  have hown : s.vm.findClass RX0 = some m.cls := findClass_of_methodNamed B.named
  have hlocks := B.notSynchronized
  have hin : meth.name = "<init>" := (name_of_methodNamed B.named B.method).1
  have hu : ∀ w ∈ wsX00, w ∈ wsX0_init := fun _ h => List.mem_cons_of_mem _ (List.mem_append_right _ h)
  have hA : ∀ q : Nat, s.heap.size ≤ q → iA h0 s.heap.size q := fun q h => Or.inr h
  have hS : va_S (iA h0 s.heap.size) s.heap s.heap [] := va_S.rf
  have hP : va_P D vwCl [(h0, .inr (0, [.int 0, .null, .null, .null, .int 0, .int 0, .int 0, .int 0, .int 0, .int 0]))] s.heap := hP
  have hD : va_D (iA h0 s.heap.size) [(h0, .inr (0, [.int 0, .null, .null, .null, .int 0, .int 0, .int 0, .int 0, .int 0, .int 0]))] := ⟨fun i j x y hi hj _ => by
    have h1 : i < 1 := (List.getElem?_eq_some_iff.mp hi).1
    have h2 : j < 1 := (List.getElem?_eq_some_iff.mp hj).1
    omega, fun k x hk => by
    have h1 : k < 1 := (List.getElem?_eq_some_iff.mp hk).1
    rw [show k = 0 by omega] at hk
    cases hk
    exact Or.inl rfl⟩
  have hl := lv_entry ([.ref h0, .int p1]) (n := 2) (Nat.le_of_ble_eq_true rfl)
  rw [lg_entry_eq]
  generalize (lg_sl ([.ref h0, .int p1]) ++ List.replicate (2 - (lg_sl ([.ref h0, .int p1])).length) Slot.unset).toArray = ls at hl ⊢
  have hl : lv_has ls 2 [(0, .ref h0), (1, .int p1)] := hl
  refine lv_aload_n hx hb dX0_init_0 rfl (lv_at hl 0 rfl) ?_
  refine W.objInit hx hb hown (hts (.methodLink RX0 1 objectInit) (by decide +kernel)) (hts (.instanceMethod objectInit) (by decide +kernel)) (hts _ (List.mem_cons_of_mem _ (List.mem_append_left _ (List.mem_append_left _ (List.mem_of_getElem? (i := 2) rfl))))) rfl (by rw [hml]; exact hl.1) rfl dX0_init_1 (Nat.le_of_ble_eq_true rfl) (Nat.le_of_ble_eq_true rfl) ?_
  refine W.eq (g2 := F0 m 4 ls []) rfl ?_
  have harr := hts (.arrayClass .int) (by decide +kernel)
  have hcl : (Cond.classLink RX0 13 ("[" ++ (FieldType.array .int).toString)).before [Value.ref h0, Value.int p1].toArray s = true := by
    rw [show "[" ++ (FieldType.array .int).toString = "[[I" by decide +kernel]
    exact hts (.classLink RX0 13 "[[I") (by decide +kernel)
  refine lv_aload_n hx hb dX0_init_4 rfl (lv_at hl 0 rfl) ?_
  refine lv_iconst (v := 5) hx hb dX0_init_5 (by decide) ?_
  refine va_newa (atype := .int) (ty := .int) (a0 := (5, .inl (fun _ => 0))) hx hb harr rfl hK hP hD hS hA (newa_int 5) (by decide +kernel) (N' := 5) (by decide +kernel) (by decide +kernel) (Nat.le_of_ble_eq_true rfl) (Nat.le_of_ble_eq_true rfl) dX0_init_6 (fun q1 cI H hK hP hD hS => ?_)
  have hK : va_K D vwCl [(cI, .int)] s := hK
  have hP : va_P D vwCl [(h0, .inr (0, [.int 0, .null, .null, .null, .int 0, .int 0, .int 0, .int 0, .int 0, .int 0])), (q1, .inl (cI, 5, .inl (fun _ => 0)))] H := hP
  have hD : va_D (iA h0 s.heap.size) [(h0, .inr (0, [.int 0, .null, .null, .null, .int 0, .int 0, .int 0, .int 0, .int 0, .int 0])), (q1, .inl (cI, 5, .inl (fun _ => 0)))] := hD
  refine W.widen (k := 1) (n := 5) (by decide) (by decide) ?_
  refine va_putF (D := D) (ci := 0) (v := .ref q1) (ty := .array .int) (C := RX0) (T := TX0) (N := 10) hx hb hts hu tyX0 tyX0_ok nmX0 hown hK hP hD hS 0 rfl rfl 1 (by decide) (hts (.fieldLink RX0 9 "FlightBooks" "lineCounts" "[I") (by decide +kernel)) (fun _ h9 => h9) rfl hin rfl (by decide +kernel) rfl rfl (Nat.le_of_ble_eq_true rfl) dX0_init_8 (fun H locs hP hD hS => ?_)
  have hP : va_P D vwCl ([(h0, .inr (0, [.int 0, .ref q1, .null, .null, .int 0, .int 0, .int 0, .int 0, .int 0, .int 0])), (q1, .inl (cI, 5, .inl (fun _ => 0)))] ++ va_pl [] (fun _ => (.inl (cI, 24, .inl (fun _ => 0))))) H := hP
  have hD : va_D (iA h0 s.heap.size) ([(h0, .inr (0, [.int 0, .ref q1, .null, .null, .int 0, .int 0, .int 0, .int 0, .int 0, .int 0])), (q1, .inl (cI, 5, .inl (fun _ => 0)))] ++ va_pl [] (fun _ => (.inl (cI, 24, .inl (fun _ => 0))))) := hD
  have hcy : s.vm.findClass (FieldType.array .int).toString = some cI := by
    have h9 : s.vm.findClass ("[" ++ FieldType.int.toString) = some cI := (hK.2 0 _ rfl).2
    rw [show (FieldType.array .int).toString = "[" ++ FieldType.int.toString by decide +kernel]
    exact h9
  refine lv_aload_n hx hb dX0_init_11 rfl (lv_at hl 0 rfl) ?_
  refine lv_iconst (v := 5) hx hb dX0_init_12 (by decide) ?_
  refine lv_bipush (v := 24) hx hb dX0_init_13 (by decide) ?_
  refine va_mna (ty := .int) (cy := cI) (z := (24, .inl (fun _ => 0))) (N' := 5) (K' := 24) hx hb hown hcl hAOA harr hcy hK hP hD hS hA (by decide +kernel) (by decide +kernel) (by decide +kernel) (by decide +kernel) (by decide +kernel) (by decide +kernel) (by decide +kernel) rfl rfl (Nat.le_of_ble_eq_true rfl) (Nat.le_of_ble_eq_true rfl) (inner_int 24) dX0_init_15 (fun q2 rh cO H hinj hnlrh hK hP hD hS => ?_)
  rw [vr_const] at hP hD
  have hK : va_K D vwCl [(cI, .int), (cO, .array .int)] s := hK
  have hP : va_P D vwCl (([(h0, .inr (0, [.int 0, .ref q1, .null, .null, .int 0, .int 0, .int 0, .int 0, .int 0, .int 0])), (q1, .inl (cI, 5, .inl (fun _ => 0)))] ++ [(q2, .inl (cO, 5, .inr (.inr (.inr (.inr (xq 5 rh))))))]) ++ va_pl ([] ++ (List.range 5).map rh) (fun _ => (.inl (cI, 24, .inl (fun _ => 0))))) H := hP
  have hD : va_D (iA h0 s.heap.size) (([(h0, .inr (0, [.int 0, .ref q1, .null, .null, .int 0, .int 0, .int 0, .int 0, .int 0, .int 0])), (q1, .inl (cI, 5, .inl (fun _ => 0)))] ++ [(q2, .inl (cO, 5, .inr (.inr (.inr (.inr (xq 5 rh))))))]) ++ va_pl ([] ++ (List.range 5).map rh) (fun _ => (.inl (cI, 24, .inl (fun _ => 0))))) := hD
  refine W.widen (k := 7) (n := 130) (by decide) (by decide) ?_
  refine va_putF (D := D) (ci := 0) (v := .ref q2) (ty := .array (.array .int)) (C := RX0) (T := TX0) (N := 10) hx hb hts hu tyX0 tyX0_ok nmX0 hown hK hP hD hS 0 rfl rfl 2 (by decide) (hts (.fieldLink RX0 15 "FlightBooks" "held" "[[I") (by decide +kernel)) (fun _ h9 => h9) rfl hin rfl (by decide +kernel) rfl rfl (Nat.le_of_ble_eq_true rfl) dX0_init_19 (fun H locs hP hD hS => ?_)
  have hP : va_P D vwCl (([(h0, .inr (0, [.int 0, .ref q1, .ref q2, .null, .int 0, .int 0, .int 0, .int 0, .int 0, .int 0])), (q1, .inl (cI, 5, .inl (fun _ => 0)))] ++ [(q2, .inl (cO, 5, .inr (.inr (.inr (.inr (xq 5 rh))))))]) ++ va_pl ([] ++ (List.range 5).map rh) (fun _ => (.inl (cI, 24, .inl (fun _ => 0))))) H := hP
  have hD : va_D (iA h0 s.heap.size) (([(h0, .inr (0, [.int 0, .ref q1, .ref q2, .null, .int 0, .int 0, .int 0, .int 0, .int 0, .int 0])), (q1, .inl (cI, 5, .inl (fun _ => 0)))] ++ [(q2, .inl (cO, 5, .inr (.inr (.inr (.inr (xq 5 rh))))))]) ++ va_pl ([] ++ (List.range 5).map rh) (fun _ => (.inl (cI, 24, .inl (fun _ => 0))))) := hD
  refine lv_aload_n hx hb dX0_init_22 rfl (lv_at hl 0 rfl) ?_
  refine lv_bipush (v := 24) hx hb dX0_init_23 (by decide) ?_
  refine lv_bipush (v := 24) hx hb dX0_init_25 (by decide) ?_
  refine va_mna (ty := .int) (cy := cI) (z := (24, .inl (fun _ => 0))) (N' := 24) (K' := 24) hx hb hown hcl hAOA harr hcy hK hP hD hS hA (by decide +kernel) (by decide +kernel) (by decide +kernel) (by decide +kernel) (by decide +kernel) (by decide +kernel) (by decide +kernel) rfl rfl (Nat.le_of_ble_eq_true rfl) (Nat.le_of_ble_eq_true rfl) (inner_int 24) dX0_init_27 (fun q3 rp cO2 H hinj hnlrp hK hP hD hS => ?_)
  rw [vr_const] at hP hD
  have eO : cO2 = cO := RA_injA (hK.2 1 _ rfl).2 (hK.2 2 _ rfl).2
  subst eO
  have hK : va_K D vwCl [(cI, .int), (cO2, .array .int)] s := hK.sub [0, 1] rfl
  have hP : va_P D vwCl ((([(h0, .inr (0, [.int 0, .ref q1, .ref q2, .null, .int 0, .int 0, .int 0, .int 0, .int 0, .int 0])), (q1, .inl (cI, 5, .inl (fun _ => 0)))] ++ [(q2, .inl (cO2, 5, .inr (.inr (.inr (.inr (xq 5 rh))))))]) ++ [(q3, .inl (cO2, 24, .inr (.inr (.inr (.inr (xq 24 rp))))))]) ++ va_pl (([] ++ (List.range 5).map rh) ++ (List.range 24).map rp) (fun _ => (.inl (cI, 24, .inl (fun _ => 0))))) H := hP
  have hD : va_D (iA h0 s.heap.size) ((([(h0, .inr (0, [.int 0, .ref q1, .ref q2, .null, .int 0, .int 0, .int 0, .int 0, .int 0, .int 0])), (q1, .inl (cI, 5, .inl (fun _ => 0)))] ++ [(q2, .inl (cO2, 5, .inr (.inr (.inr (.inr (xq 5 rh))))))]) ++ [(q3, .inl (cO2, 24, .inr (.inr (.inr (.inr (xq 24 rp))))))]) ++ va_pl (([] ++ (List.range 5).map rh) ++ (List.range 24).map rp) (fun _ => (.inl (cI, 24, .inl (fun _ => 0))))) := hD
  refine W.widen (k := 32) (n := 730) (by decide) (by decide) ?_
  refine va_putF (D := D) (ci := 0) (v := .ref q3) (ty := .array (.array .int)) (C := RX0) (T := TX0) (N := 10) hx hb hts hu tyX0 tyX0_ok nmX0 hown hK hP hD hS 0 rfl rfl 3 (by decide) (hts (.fieldLink RX0 18 "FlightBooks" "places" "[[I") (by decide +kernel)) (fun _ h9 => h9) rfl hin rfl (by decide +kernel) rfl rfl (Nat.le_of_ble_eq_true rfl) dX0_init_31 (fun H locs hP hD hS => ?_)
  have hP : va_P D vwCl ((([(h0, .inr (0, [.int 0, .ref q1, .ref q2, .ref q3, .int 0, .int 0, .int 0, .int 0, .int 0, .int 0])), (q1, .inl (cI, 5, .inl (fun _ => 0)))] ++ [(q2, .inl (cO2, 5, .inr (.inr (.inr (.inr (xq 5 rh))))))]) ++ [(q3, .inl (cO2, 24, .inr (.inr (.inr (.inr (xq 24 rp))))))]) ++ va_pl (([] ++ (List.range 5).map rh) ++ (List.range 24).map rp) (fun _ => (.inl (cI, 24, .inl (fun _ => 0))))) H := hP
  have hD : va_D (iA h0 s.heap.size) ((([(h0, .inr (0, [.int 0, .ref q1, .ref q2, .ref q3, .int 0, .int 0, .int 0, .int 0, .int 0, .int 0])), (q1, .inl (cI, 5, .inl (fun _ => 0)))] ++ [(q2, .inl (cO2, 5, .inr (.inr (.inr (.inr (xq 5 rh))))))]) ++ [(q3, .inl (cO2, 24, .inr (.inr (.inr (.inr (xq 24 rp))))))]) ++ va_pl (([] ++ (List.range 5).map rh) ++ (List.range 24).map rp) (fun _ => (.inl (cI, 24, .inl (fun _ => 0))))) := hD
  obtain ⟨a, ea⟩ : ∃ a : XA, a = (h0, q1, q2, q3, rh, rp, cI, cO2) := ⟨_, rfl⟩
  obtain ⟨S, eS⟩ : ∃ S : XS, S = (0, fun _ => 0, fun _ _ => 0, fun _ _ => 0, 0, 0, 0, 0, 0, 0) := ⟨_, rfl⟩
  have eW : ((([(h0, .inr (0, [.int 0, .ref q1, .ref q2, .ref q3, .int 0, .int 0, .int 0, .int 0, .int 0, .int 0])), (q1, .inl (cI, 5, .inl (fun _ => 0)))] ++ [(q2, .inl (cO2, 5, .inr (.inr (.inr (.inr (xq 5 rh))))))]) ++ [(q3, .inl (cO2, 24, .inr (.inr (.inr (.inr (xq 24 rp))))))]) ++ va_pl (([] ++ (List.range 5).map rh) ++ (List.range 24).map rp) (fun _ => (.inl (cI, 24, .inl (fun _ => 0))))) = xW a S := by
    rw [ea, eS]
    simp only [va_pl, List.nil_append, List.map_append, List.map_map, Function.comp_def, xW, xRows, List.cons_append]
  rw [eW] at hP hD
  have hK : va_K D vwCl (xT a) s := by rw [ea]; exact hK
  have eh : h0 = xa a := by rw [ea]
  have eq1 : q1 = xac a := by rw [ea]
  have hl : lv_has ls 2 [(0, .ref (xa a)), (1, .int p1)] := by rw [← eh]; exact hl
  refine lv_aload_n hx hb dX0_init_34 rfl (lv_at hl 0 rfl) ?_
  refine lv_iconst (v := (-1)) hx hb dX0_init_35 (by decide) ?_
  refine xi_put hx hb hts hu hown hK hP hD hS 4 (by decide) (hts (.fieldLink RX0 21 "FlightBooks" "rowCount" "I") (by decide +kernel)) rfl rfl (by decide +kernel) (xsRc S) (fun _ => rfl) (fun _ => rfl) dX0_init_36 (fun H locs hP hD hS => ?_)
  obtain ⟨T1, eT1⟩ : ∃ Z : XS, Z = xsRc S (-1) := ⟨_, rfl⟩
  rw [← eT1] at hP hD
  refine lv_aload_n hx hb dX0_init_39 rfl (lv_at hl 0 rfl) ?_
  refine lv_iconst (v := 0) hx hb dX0_init_40 (by decide) ?_
  refine xi_put hx hb hts hu hown hK hP hD hS 5 (by decide) (hts (.fieldLink RX0 25 "FlightBooks" "columnCount" "I") (by decide +kernel)) rfl rfl (by decide +kernel) (xsCc T1) (fun _ => rfl) (fun _ => rfl) dX0_init_41 (fun H locs hP hD hS => ?_)
  obtain ⟨T2, eT2⟩ : ∃ Z : XS, Z = xsCc T1 0 := ⟨_, rfl⟩
  rw [← eT2] at hP hD
  refine lv_aload_n hx hb dX0_init_44 rfl (lv_at hl 0 rfl) ?_
  refine lv_iconst (v := 0) hx hb dX0_init_45 (by decide) ?_
  refine xi_put hx hb hts hu hown hK hP hD hS 6 (by decide) (hts (.fieldLink RX0 28 "FlightBooks" "bargesOut" "I") (by decide +kernel)) rfl rfl (by decide +kernel) (xsBo T2) (fun _ => rfl) (fun _ => rfl) dX0_init_46 (fun H locs hP hD hS => ?_)
  obtain ⟨T3, eT3⟩ : ∃ Z : XS, Z = xsBo T2 0 := ⟨_, rfl⟩
  rw [← eT3] at hP hD
  refine lv_aload_n hx hb dX0_init_49 rfl (lv_at hl 0 rfl) ?_
  refine lv_iconst (v := 0) hx hb dX0_init_50 (by decide) ?_
  refine xi_put hx hb hts hu hown hK hP hD hS 7 (by decide) (hts (.fieldLink RX0 31 "FlightBooks" "eighthsOut" "I") (by decide +kernel)) rfl rfl (by decide +kernel) (xsEo T3) (fun _ => rfl) (fun _ => rfl) dX0_init_51 (fun H locs hP hD hS => ?_)
  obtain ⟨T4, eT4⟩ : ∃ Z : XS, Z = xsEo T3 0 := ⟨_, rfl⟩
  rw [← eT4] at hP hD
  refine lv_aload_n hx hb dX0_init_54 rfl (lv_at hl 0 rfl) ?_
  refine lv_iconst (v := 0) hx hb dX0_init_55 (by decide) ?_
  refine xi_put hx hb hts hu hown hK hP hD hS 8 (by decide) (hts (.fieldLink RX0 34 "FlightBooks" "faultCount" "I") (by decide +kernel)) rfl rfl (by decide +kernel) (xsFc T4) (fun _ => rfl) (fun _ => rfl) dX0_init_56 (fun H locs hP hD hS => ?_)
  obtain ⟨T5, eT5⟩ : ∃ Z : XS, Z = xsFc T4 0 := ⟨_, rfl⟩
  rw [← eT5] at hP hD
  refine lv_aload_n hx hb dX0_init_59 rfl (lv_at hl 0 rfl) ?_
  refine lv_iconst (v := 0) hx hb dX0_init_60 (by decide) ?_
  refine xi_put hx hb hts hu hown hK hP hD hS 9 (by decide) (hts (.fieldLink RX0 37 "FlightBooks" "latestFault" "I") (by decide +kernel)) rfl rfl (by decide +kernel) (xsLf T5) (fun _ => rfl) (fun _ => rfl) dX0_init_61 (fun H locs hP hD hS => ?_)
  obtain ⟨T6, eT6⟩ : ∃ Z : XS, Z = xsLf T5 0 := ⟨_, rfl⟩
  rw [← eT6] at hP hD
  obtain ⟨S1, eS1⟩ : ∃ S1 : XS, S1 = T6 := ⟨_, rfl⟩
  rw [← eS1] at hP hD
  refine lv_aload_n hx hb dX0_init_64 rfl (lv_at hl 0 rfl) ?_
  refine lv_iload_n hx hb dX0_init_65 rfl (lv_at hl 1 rfl) ?_
  refine lv_iconst (v := 1) hx hb dX0_init_66 (by decide) ?_
  refine lv_bipush (v := 24) hx hb dX0_init_67 (by decide) ?_
  refine va_calli (va_runS (As := [.int p1, .int 1, .int 24]) (rest := [.ref (xa a)]) ⟨hx, hb, hml, hown, hts⟩ (c_X0_nearest l p1 1 24) (va_cwS 3 hts gX0_init_X0_nearest rfl rfl rfl hdX0_nearest ⟨Nat.le_of_ble_eq_true rfl, Nat.le_of_ble_eq_true rfl⟩) pPreS rfl rfl hl.1 rfl (lv_room (Nat.le_of_ble_eq_true rfl)) dX0_init_69 ⟨Nat.le_of_ble_eq_true rfl, Nat.le_of_ble_eq_true rfl⟩) hS (fun q _ h => h.elim) (fun q h => h.elim) (fun r1 u1 t H1 locs ht hvm hw1 hB hz1 hk1 hS => ?_)
  have hP := P_kept hP hk1
  refine va_putF (D := D) (ci := 0) (v := .int r1) (ty := .int) (C := RX0) (T := TX0) (N := 10) hx hb hts hu tyX0 tyX0_ok nmX0 hown hK hP hD hS 0 rfl rfl 0 (by decide) (hts (.fieldLink RX0 44 "FlightBooks" "chamberCount" "I") (by decide +kernel)) (fun _ h9 => h9) rfl hin rfl (by decide +kernel) rfl rfl (Nat.le_of_ble_eq_true rfl) dX0_init_72 (fun H locs hP hD hS => ?_)
  obtain ⟨S2, eS2⟩ : ∃ S2 : XS, S2 = (r1, xC S1, xH S1, xP S1, xRc S1, xCc S1, xBo S1, xEo S1, xFc S1, xLf S1) := ⟨_, rfl⟩
  have hP : va_P D vwCl (xW a S2) H := by rw [eS2]; exact hP
  have hD : va_D (iA h0 s.heap.size) (xW a S2) := by rw [eS2]; exact hD
  refine lv_aload_n hx hb dX0_init_75 rfl (lv_at hl 0 rfl) ?_
  refine x_get hx hb hts hu hown hK hP 1 (by decide) (hts (.fieldLink RX0 9 "FlightBooks" "lineCounts" "[I") (by decide +kernel)) rfl (v := .ref (xac a)) rfl dX0_init_76 ?_
  refine lv_iconst (v := (-1)) hx hb dX0_init_79 (by decide) ?_
  refine x_fill (rest := []) (nL := 2) hx hb hml hl.1 hown hts gX0_init_J7_fill_53178 (Nat.le_of_ble_eq_true rfl) (Nat.le_of_ble_eq_true rfl) hK hP hD hS 1 0 rfl rfl (by decide) (Nat.zero_le _) (Nat.le_of_ble_eq_true rfl) (Nat.le_of_ble_eq_true rfl) dX0_init_80 (fun H locs hP hS => ?_)
  have hF : xF_init p1 = xsC S2 (fun _ => (-1)) := by
    rw [eS2, eS1, eT6, eT5, eT4, eT3, eT2, eT1, eS, ← hw1]
    rfl
  have hP9 : va_P D vwCl (xW a (xF_init p1)) H := by rw [hF]; exact hP
  exact W.vret hx hb hr (fun t ht hW => ⟨⟨a, rfl, ⟨eh.symm, xOk_of hD, xA_of hD⟩, by rw [ht]; exact hP9, va_K.moved hW.alike hK⟩, hS.F ht⟩) hS.2.2 dX0_init_83
