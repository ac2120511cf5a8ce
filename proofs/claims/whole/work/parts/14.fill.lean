/-! Arrays.fill over int[], and the class' calls of it -/
theorem cell_ext {c : ClassId} {n : Nat} {g g' : Nat → Int32} (h : ∀ j, j < n → g j = g' j) : vp_cell c (n, .inl g) = vp_cell c (n, .inl g') := by
  show arrV c n (fun j => .int (g j)) = arrV c n (fun j => .int (g' j))
  have e : (Array.ofFn (n := n) fun j => Value.int (g j.val)) = Array.ofFn (n := n) fun j => Value.int (g' j.val) := by
    congr 1
    funext j
    rw [h j.val j.isLt]
  unfold arrV
  rw [e]
theorem P_setk {D : va_G} {cl : List vw_C} {A : Nat → Prop} {ws : va_W} {H H1 : Heap} {k q : Nat} {e0 e : va_E} (hP : va_P D cl ws H) (hD : va_D A ws) (hk : ws[k]? = some (q, e0)) (ho : ∀ x : Nat, x < H.size → ¬ x = q → H1[x]? = H[x]?) (hn : va_at D cl (q, e) H1) : va_P D cl (ws.set k (q, e)) H1 := by
  have hl := (List.getElem?_eq_some_iff.mp hk).1
  intro j x hj
  by_cases hjk : j = k
  · subst hjk
    rw [List.getElem?_set_self hl] at hj
    cases hj
    exact hn
  · rw [List.getElem?_set_ne (Ne.symm hjk)] at hj
    exact (hP j x hj).kept (ho x.1 ((hP j x hj).lt) (fun z => hjk (hD.1 j k x (q, e0) hj hk z)))
theorem hdJ7_fill : yJ7_fill_53178.cls ≠ "java/lang/invoke/MethodHandle" ∧ yJ7_fill_53178.cls ≠ "java/lang/invoke/VarHandle" ∧ (parseMethodDescriptor yJ7_fill_53178.desc).map (fun d => d.parameters.length) = some 2 := by decide +kernel
abbrev fB (D : va_G) (q : Nat) (cI : ClassId) (n : Nat) (f : Nat → Int32) (t : State) : Prop := va_P D vwCl [(q, .inl (cI, n, .inl f))] t.heap ∧ va_K D vwCl [(cI, .int)] t
set_option maxHeartbeats 4000000 in
set_option maxRecDepth 100000 in
theorem c_fill (l : Launch) (D : va_G) (q : Nat) (cI : ClassId) (n : Nat) (hn : n < 2 ^ 31) (f : Nat → Int32) (v : Int32) : Met l yJ7_fill_53178 wsJ7_fill_53178 ({ frames := 0, cells := 0, slots := 0, locals := 0 }) (va_Pc [.ref q, .int v] (fB D q cI n f)) (va_Qv (fun (_ : Unit) => True) (fun _ t => fB D q cI n (fun _ => v) t) (fun x => x = q)) 0 0 (fun x => x = q) := by
  refine Met.ofW (cc := cJ7_fill_53178) (maxL := 4) (ret := none) (by decide) rfl ?_
  intro p e s m args below meth c s₁ B hml hv
  obtain ⟨rfl, hP, hK⟩ := hv
  have hx := B.exec
  have hb := B.bytes
  have hr := B.returns
  have hlocks := B.notSynchronized
  have hS : va_S (fun x => x = q) s.heap s.heap [] := va_S.rf
  have hP : va_P D vwCl [(q, .inl (cI, n, .inl f))] s.heap := hP
  have hD : ∀ g : Nat → Int32, va_D (fun x => x = q) [(q, .inl (cI, n, .inl g))] := fun g => by
    refine ⟨fun i j x y hi hj _ => ?_, fun k x hk => ?_⟩
    · have h1 : i < 1 := (List.getElem?_eq_some_iff.mp hi).1
      have h2 : j < 1 := (List.getElem?_eq_some_iff.mp hj).1
      omega
    · have h1 : k < 1 := (List.getElem?_eq_some_iff.mp hk).1
      rw [show k = 0 by omega] at hk
      cases hk
      rfl
  have loop : ∀ (z k : Nat) (i : Int32) (g : Nat → Int32) (H : Heap) (locs : List Loc) (ls : Array Slot), k ≤ n → n + 1 ≤ k + z → i = nI k → (∀ j, j < k → g j = v) → va_P D vwCl [(q, .inl (cI, n, .inl g))] H → va_S (fun x => x = q) s.heap H locs → lv_has ls 4 [(2, .int i), (3, .int (nI n)), (0, .ref q), (1, .int v)] → W p l e (headSpec wsJ7_fill_53178 ({ frames := 0, cells := 0, slots := 0, locals := 0 })).room s m [Value.ref q, Value.int v].toArray below meth c H locs 0 0 (MQ below (va_Qv (fun (_ : Unit) => True) (fun _ t => fB D q cI n (fun _ => v) t) (fun x => x = q)) [Value.ref q, Value.int v].toArray s 0 0 (fun x => x = q)) (F0 m 5 ls []) := by
    intro z
    induction z with
    | zero =>
      intro k i g H locs ls h1 h2
      exact absurd h2 (by omega)
    | succ z ih =>
      intro k i g H locs ls hk hkz ei hg hP hS hl
      refine lv_iload_n hx hb dJ7_fill_53178_5 rfl (lv_at hl 0 rfl) ?_
      refine lv_iload_n hx hb dJ7_fill_53178_6 rfl (lv_at hl 1 rfl) ?_
      refine lv_icmp_ge (tgt := 20) hx hb dJ7_fill_53178_7 (by decide) (fun c1 => ?_) (fun c1 => ?_)
      · have hkn : k = n := by
          rw [ei, nI_leI hn (by omega)] at c1
          omega
        have hP9 : va_P D vwCl [(q, .inl (cI, n, .inl (fun _ => v)))] H := by
          intro j x hj
          have h1 : j < 1 := (List.getElem?_eq_some_iff.mp hj).1
          rw [show j = 0 by omega] at hj
          cases hj
          have h0 := hP 0 _ rfl
          show H[q]? = some (vp_cell cI (n, .inl (fun _ => v)))
          rw [← cell_ext (g := g) (fun j hj => hg j (by omega))]
          exact h0
        exact W.vret hx hb hr (fun t ht hW => ⟨⟨(), rfl, trivial, by rw [ht]; exact hP9, va_K.moved hW.alike hK⟩, hS.F ht⟩) hS.2.2 dJ7_fill_53178_20
      · have hkn : k < n := by
          rw [ei, nI_leI hn (by omega)] at c1
          omega
        have hin : vp_in i n := by rw [ei]; exact vp_in_nI hkn hn
        refine lv_aload_n hx hb dJ7_fill_53178_10 rfl (lv_at hl 2 rfl) ?_
        refine lv_iload_n hx hb dJ7_fill_53178_11 rfl (lv_at hl 0 rfl) ?_
        refine lv_iload_n hx hb dJ7_fill_53178_12 rfl (lv_at hl 3 rfl) ?_
        refine va_iast hx hb hK hP (hD g) hS 0 0 rfl rfl hin dJ7_fill_53178_13 (fun H locs hP _ hS => ?_)
        refine lv_iinc (v := i + 1) (lv' := [(2, .int (i + 1)), (3, .int (nI n)), (0, .ref q), (1, .int v)]) hx hb dJ7_fill_53178_14 hl (k := 0) rfl rfl (by decide) rfl (fun ls hl => ?_)
        refine lv_goto (tgt := 5) hx hb dJ7_fill_53178_17 (by decide) ?_
        refine ih (k + 1) (i + 1) (upd g i.toNatClampNeg v) H locs ls hkn (by omega) (by rw [ei]; exact nI_1 k) (fun j hj => ?_) hP hS hl
        rw [ei, nI_clamp (by omega)]
        by_cases h : j = k
        · rw [h]; exact pk_us
        · rw [pk_un h]; exact hg j (by omega)
  have hl := lv_entry ([.ref q, .int v]) (n := 4) (Nat.le_of_ble_eq_true rfl)
  rw [lg_entry_eq]
  generalize (lg_sl ([.ref q, .int v]) ++ List.replicate (4 - (lg_sl ([.ref q, .int v])).length) Slot.unset).toArray = ls at hl ⊢
  have hl : lv_has ls 4 [(0, .ref q), (1, .int v)] := hl
  refine lv_iconst (v := 0) hx hb dJ7_fill_53178_0 (by decide) ?_
  refine lv_istore_n (lv' := [(2, .int 0), (0, .ref q), (1, .int v)]) hx hb dJ7_fill_53178_1 rfl hl (by decide) rfl (fun ls hl => ?_)
  refine lv_aload_n hx hb dJ7_fill_53178_2 rfl (lv_at hl 1 rfl) ?_
  refine va_alen hx hb hK hP 0 0 rfl rfl (v := nI n) rfl dJ7_fill_53178_3 ?_
  refine lv_istore_n (lv' := [(3, .int (nI n)), (2, .int 0), (0, .ref q), (1, .int v)]) hx hb dJ7_fill_53178_4 rfl hl (by decide) rfl (fun ls hl => ?_)
  exact loop (n + 1) 0 0 f _ _ ls (Nat.zero_le _) (by omega) nI_0.symm (fun j hj => absurd hj (by omega)) hP hS (lv_sub hl [1, 0, 2, 3] rfl)
section XFL
variable {p : Program} {l : Launch} {e : Env} {R : Room} {s : State} {m : MethodId} {args : Array Value} {below : List Frame} {meth : Method} {c : Code} {H : Heap} {locs : List Loc} {cells slots : Nat} {Q : State → Prop}
variable {cc : ByteArray} {pc nL : Nat} {ls : Array Slot} {rest : List Value} {D : va_G} {a : XA} {S : XS} {H0 : Heap} {Ts : List Cond}
theorem x_fill {A : Nat → Prop} {ws : va_W} {tys : List (ClassId × FieldType)} (hexec : p.tables.exec = Jvm.exec) (hb : c.code = cc) (hml : c.maxLocals = nL) (hsz : ls.size = nL) (hown : s.vm.findClass RX0 = some m.cls) (hts : ∀ w ∈ Ts, w.before args s = true) (hG : GoodIn Ts (va_wsS RX0 47 yJ7_fill_53178 wsJ7_fill_53178)) (hfr : 1 ≤ R.frames) (hlo : 23 ≤ R.locals) (hK : va_K D vwCl tys s) (hP : va_P D vwCl ws H) (hD : va_D A ws) (hS : va_S A H0 H locs) (k t0 : Nat) {q n : Nat} {cI : ClassId} {f : Nat → Int32} (hq : ws[k]? = some (q, .inl (cI, n, .inl f))) (ht0 : tys[t0]? = some (cI, .int)) (hn : n < 2 ^ 31) {v : Int32} (hrm : (rest.map fun v => v.category).sum ≤ 8) (hc : cells ≤ R.cells) (hs : slots ≤ R.slots) (hdg : decode cc pc = .ok (.invokestatic 47, 3))
    (kk : ∀ (H1 : Heap) (locs1 : List Loc), va_P D vwCl (ws.set k (q, .inl (cI, n, .inl (fun _ => v)))) H1 → va_S A H0 H1 locs1 → W p l e R s m args below meth c H1 locs1 cells slots Q (F0 m (pc + 3) ls rest)) : W p l e R s m args below meth c H locs cells slots Q (F0 m pc ls (.int v :: .ref q :: rest)) := by
  have hq1 : va_P D vwCl [(q, .inl (cI, n, .inl f))] H := fun j x hj => by
    have h1 : j < 1 := (List.getElem?_eq_some_iff.mp hj).1
    rw [show j = 0 by omega] at hj
    cases hj
    exact hP k _ hq
  have hK1 : va_K D vwCl [(cI, .int)] s := ⟨hK.1, fun j x hj => by
    have h1 : j < 1 := (List.getElem?_eq_some_iff.mp hj).1
    rw [show j = 0 by omega] at hj
    cases hj
    exact hK.2 t0 _ ht0⟩
  have hA : A q := hD.2 k _ hq
  refine va_callv (va_runS (As := [.ref q, .int v]) (rest := rest) ⟨hexec, hb, hml, hown, hts⟩ (c_fill l D q cI n hn f v) (va_cwS 2 hts hG rfl rfl rfl hdJ7_fill ⟨hfr, hlo⟩) ⟨fun a U g mk h => ⟨h.1, h.2.1, va_K.moved (u := U) (U := U.calling g mk a) (Vm.Alike.refl U.vm) h.2.2⟩, fun U hU hW => ⟨rfl, by rw [hU]; exact hq1, va_K.moved hW.alike hK1⟩⟩ rfl rfl hsz rfl (lv_room hrm) hdg ⟨hc, hs⟩) hS (fun x _ h => by rw [show x = q from h]; exact hA) (fun x h => by rw [show x = q from h]; exact hA) (fun u t H1 locs ht hvm hw hB hz1 hk1 hS => ?_)
  obtain ⟨hP1, -⟩ := hB
  rw [ht] at hP1
  exact kk H1 locs (P_setk hP hD hq hk1 (hP1 0 _ rfl)) hS
theorem x_fillc (hexec : p.tables.exec = Jvm.exec) (hb : c.code = cc) (hml : c.maxLocals = nL) (hsz : ls.size = nL) (hown : s.vm.findClass RX0 = some m.cls) (hts : ∀ w ∈ Ts, w.before args s = true) (hG : GoodIn Ts (va_wsS RX0 47 yJ7_fill_53178 wsJ7_fill_53178)) (hfr : 1 ≤ R.frames) (hlo : 23 ≤ R.locals) (hrm : (rest.map fun v => v.category).sum ≤ 8) (hc : cells ≤ R.cells) (hs : slots ≤ R.slots) (hO : xOk a) (hK : va_K D vwCl (xT a) s) (hP : va_P D vwCl (xW a S) H) (hS : va_S (xA a) H0 H locs) {v : Int32} (hdg : decode cc pc = .ok (.invokestatic 47, 3))
    (kk : ∀ (H1 : Heap) (locs1 : List Loc), va_P D vwCl (xW a (xsC S (fun _ => v))) H1 → va_S (xA a) H0 H1 locs1 → W p l e R s m args below meth c H1 locs1 cells slots Q (F0 m (pc + 3) ls rest)) : W p l e R s m args below meth c H locs cells slots Q (F0 m pc ls (.int v :: .ref (xac a) :: rest)) :=
  x_fill hexec hb hml hsz hown hts hG hfr hlo hK hP (xD hO S) hS 1 0 rfl rfl (by decide) hrm hc hs hdg kk
theorem x_fillh (hexec : p.tables.exec = Jvm.exec) (hb : c.code = cc) (hml : c.maxLocals = nL) (hsz : ls.size = nL) (hown : s.vm.findClass RX0 = some m.cls) (hts : ∀ w ∈ Ts, w.before args s = true) (hG : GoodIn Ts (va_wsS RX0 47 yJ7_fill_53178 wsJ7_fill_53178)) (hfr : 1 ≤ R.frames) (hlo : 23 ≤ R.locals) (hrm : (rest.map fun v => v.category).sum ≤ 8) (hc : cells ≤ R.cells) (hs : slots ≤ R.slots) (hO : xOk a) (hK : va_K D vwCl (xT a) s) (hP : va_P D vwCl (xW a S) H) (hS : va_S (xA a) H0 H locs) {b v : Int32} (h5 : vp_in b 5) (hdg : decode cc pc = .ok (.invokestatic 47, 3))
    (kk : ∀ (H1 : Heap) (locs1 : List Loc), va_P D vwCl (xW a (xsH S (va_up (xH S) b.toNatClampNeg (fun _ => v)))) H1 → va_S (xA a) H0 H1 locs1 → W p l e R s m args below meth c H1 locs1 cells slots Q (F0 m (pc + 3) ls rest)) : W p l e R s m args below meth c H locs cells slots Q (F0 m pc ls (.int v :: .ref (xrh a b.toNatClampNeg) :: rest)) :=
  x_fill hexec hb hml hsz hown hts hG hfr hlo hK hP (xD hO S) hS (4 + b.toNatClampNeg) 0 (xW_h (vk_lt h5)) rfl (by decide) hrm hc hs hdg (fun H1 locs1 h1 h2 => kk H1 locs1 (by rw [← xW_seth (vk_lt h5)]; exact h1) h2)
theorem x_fillp (hexec : p.tables.exec = Jvm.exec) (hb : c.code = cc) (hml : c.maxLocals = nL) (hsz : ls.size = nL) (hown : s.vm.findClass RX0 = some m.cls) (hts : ∀ w ∈ Ts, w.before args s = true) (hG : GoodIn Ts (va_wsS RX0 47 yJ7_fill_53178 wsJ7_fill_53178)) (hfr : 1 ≤ R.frames) (hlo : 23 ≤ R.locals) (hrm : (rest.map fun v => v.category).sum ≤ 8) (hc : cells ≤ R.cells) (hs : slots ≤ R.slots) (hO : xOk a) (hK : va_K D vwCl (xT a) s) (hP : va_P D vwCl (xW a S) H) (hS : va_S (xA a) H0 H locs) {b v : Int32} (h5 : vp_in b 24) (hdg : decode cc pc = .ok (.invokestatic 47, 3))
    (kk : ∀ (H1 : Heap) (locs1 : List Loc), va_P D vwCl (xW a (xsP S (va_up (xP S) b.toNatClampNeg (fun _ => v)))) H1 → va_S (xA a) H0 H1 locs1 → W p l e R s m args below meth c H1 locs1 cells slots Q (F0 m (pc + 3) ls rest)) : W p l e R s m args below meth c H locs cells slots Q (F0 m pc ls (.int v :: .ref (xrp a b.toNatClampNeg) :: rest)) :=
  x_fill hexec hb hml hsz hown hts hG hfr hlo hK hP (xD hO S) hS (9 + b.toNatClampNeg) 0 (xW_p (vk_lt h5)) rfl (by decide) hrm hc hs hdg (fun H1 locs1 h1 h2 => kk H1 locs1 (by rw [← xW_setp]; exact h1) h2)
end XFL
