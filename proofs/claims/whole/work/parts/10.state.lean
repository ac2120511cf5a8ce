/-! the class' state (FlightBooks) and the reference's (FlightBooksModel) as values; the cells that hold them -/
abbrev XS : Type := Int32 × (Nat → Int32) × (Nat → Nat → Int32) × (Nat → Nat → Int32) × Int32 × Int32 × Int32 × Int32 × Int32 × Int32
abbrev xN (S : XS) : Int32 := S.1
abbrev xC (S : XS) : Nat → Int32 := S.2.1
abbrev xH (S : XS) : Nat → Nat → Int32 := S.2.2.1
abbrev xP (S : XS) : Nat → Nat → Int32 := S.2.2.2.1
abbrev xRc (S : XS) : Int32 := S.2.2.2.2.1
abbrev xCc (S : XS) : Int32 := S.2.2.2.2.2.1
abbrev xBo (S : XS) : Int32 := S.2.2.2.2.2.2.1
abbrev xEo (S : XS) : Int32 := S.2.2.2.2.2.2.2.1
abbrev xFc (S : XS) : Int32 := S.2.2.2.2.2.2.2.2.1
abbrev xLf (S : XS) : Int32 := S.2.2.2.2.2.2.2.2.2
abbrev xsC (S : XS) (v : Nat → Int32) : XS := (xN S, v, xH S, xP S, xRc S, xCc S, xBo S, xEo S, xFc S, xLf S)
abbrev xsH (S : XS) (v : Nat → Nat → Int32) : XS := (xN S, xC S, v, xP S, xRc S, xCc S, xBo S, xEo S, xFc S, xLf S)
abbrev xsP (S : XS) (v : Nat → Nat → Int32) : XS := (xN S, xC S, xH S, v, xRc S, xCc S, xBo S, xEo S, xFc S, xLf S)
abbrev xsRc (S : XS) (v : Int32) : XS := (xN S, xC S, xH S, xP S, v, xCc S, xBo S, xEo S, xFc S, xLf S)
abbrev xsCc (S : XS) (v : Int32) : XS := (xN S, xC S, xH S, xP S, xRc S, v, xBo S, xEo S, xFc S, xLf S)
abbrev xsBo (S : XS) (v : Int32) : XS := (xN S, xC S, xH S, xP S, xRc S, xCc S, v, xEo S, xFc S, xLf S)
abbrev xsEo (S : XS) (v : Int32) : XS := (xN S, xC S, xH S, xP S, xRc S, xCc S, xBo S, v, xFc S, xLf S)
abbrev xsFc (S : XS) (v : Int32) : XS := (xN S, xC S, xH S, xP S, xRc S, xCc S, xBo S, xEo S, v, xLf S)
abbrev xsLf (S : XS) (v : Int32) : XS := (xN S, xC S, xH S, xP S, xRc S, xCc S, xBo S, xEo S, xFc S, v)
/-- what a book's line is, and a place of the chart, by their numbers as the program has them -/
abbrev xh (S : XS) (b i : Int32) : Int32 := xH S b.toNatClampNeg i.toNatClampNeg
abbrev xp (S : XS) (b i : Int32) : Int32 := xP S b.toNatClampNeg i.toNatClampNeg
abbrev xc (S : XS) (b : Int32) : Int32 := xC S b.toNatClampNeg
abbrev xsh (S : XS) (b i v : Int32) : XS := xsH S (va_up (xH S) b.toNatClampNeg (upd (xH S b.toNatClampNeg) i.toNatClampNeg v))
abbrev xsp (S : XS) (b i v : Int32) : XS := xsP S (va_up (xP S) b.toNatClampNeg (upd (xP S b.toNatClampNeg) i.toNatClampNeg v))
abbrev xsc (S : XS) (b v : Int32) : XS := xsC S (upd (xC S) b.toNatClampNeg v)
/-- where its cells are: the object, counts, books, chart; rows of the books, rows of the chart; the array classes -/
abbrev XA : Type := Nat × Nat × Nat × Nat × (Nat → Nat) × (Nat → Nat) × ClassId × ClassId
abbrev xa (a : XA) : Nat := a.1
abbrev xac (a : XA) : Nat := a.2.1
abbrev xah (a : XA) : Nat := a.2.2.1
abbrev xap (a : XA) : Nat := a.2.2.2.1
abbrev xrh (a : XA) : Nat → Nat := a.2.2.2.2.1
abbrev xrp (a : XA) : Nat → Nat := a.2.2.2.2.2.1
abbrev xcI (a : XA) : ClassId := a.2.2.2.2.2.2.1
abbrev xcO (a : XA) : ClassId := a.2.2.2.2.2.2.2
abbrev xq (n : Nat) (r : Nat → Nat) : Nat → Option Nat := fun i => if i < n then some (r i) else none
abbrev xFs (a : XA) (S : XS) : List Value := [.int (xN S), .ref (xac a), .ref (xah a), .ref (xap a), .int (xRc S), .int (xCc S), .int (xBo S), .int (xEo S), .int (xFc S), .int (xLf S)]
def xRows (c : ClassId) (n : Nat) (r : Nat → Nat) (M : Nat → Nat → Int32) : va_W := (List.range n).map (fun i => (r i, .inl (c, 24, .inl (M i))))
abbrev xW (a : XA) (S : XS) : va_W := (xa a, .inr (0, xFs a S)) :: (xac a, .inl (xcI a, 5, .inl (xC S))) :: (xah a, .inl (xcO a, 5, .inr (.inr (.inr (.inr (xq 5 (xrh a))))))) :: (xap a, .inl (xcO a, 24, .inr (.inr (.inr (.inr (xq 24 (xrp a))))))) :: (xRows (xcI a) 5 (xrh a) (xH S) ++ xRows (xcI a) 24 (xrp a) (xP S))
abbrev xT (a : XA) : List (ClassId × FieldType) := [(xcI a, .int), (xcO a, .array .int)]
def xL (a : XA) : List Nat := xa a :: xac a :: xah a :: xap a :: ((List.range 5).map (xrh a) ++ (List.range 24).map (xrp a))
def xA (a : XA) : Nat → Prop := fun q => q ∈ xL a
/-- its addresses are apart -/
def xOk (a : XA) : Prop := ∀ (i j x : Nat), (xL a)[i]? = some x → (xL a)[j]? = some x → i = j
theorem xRows_get {c : ClassId} {n i : Nat} {r : Nat → Nat} {M : Nat → Nat → Int32} (h : i < n) : (xRows c n r M)[i]? = some (r i, .inl (c, 24, .inl (M i))) := by
  simp [xRows, h]
theorem xRows_len {c : ClassId} {n : Nat} {r : Nat → Nat} {M : Nat → Nat → Int32} : (xRows c n r M).length = n := by simp [xRows]
theorem xRows_set {c : ClassId} {n i : Nat} {r : Nat → Nat} {M : Nat → Nat → Int32} {f : Nat → Int32} : (xRows c n r M).set i (r i, .inl (c, 24, .inl f)) = xRows c n r (va_up M i f) := by
  apply List.ext_getElem?
  intro j
  by_cases hj : j < n
  · rw [xRows_get hj]
    by_cases e : j = i
    · subst e
      rw [List.getElem?_set_self (by rw [xRows_len]; exact hj), va_up_self]
    · rw [List.getElem?_set_ne (Ne.symm e), xRows_get hj, va_up_ne _ _ e]
  · rw [List.getElem?_eq_none (by rw [List.length_set, xRows_len]; omega), List.getElem?_eq_none (by rw [xRows_len]; omega)]
theorem xW_h {a : XA} {S : XS} {k : Nat} (h : k < 5) : (xW a S)[4 + k]? = some (xrh a k, .inl (xcI a, 24, .inl (xH S k))) := by
  rw [show 4 + k = k + 1 + 1 + 1 + 1 by omega]
  simp only [List.getElem?_cons_succ]
  rw [List.getElem?_append_left (by rw [xRows_len]; exact h), xRows_get h]
theorem xW_p {a : XA} {S : XS} {k : Nat} (h : k < 24) : (xW a S)[9 + k]? = some (xrp a k, .inl (xcI a, 24, .inl (xP S k))) := by
  rw [show 9 + k = (k + 5) + 1 + 1 + 1 + 1 by omega]
  simp only [List.getElem?_cons_succ]
  rw [List.getElem?_append_right (by rw [xRows_len]; omega), xRows_len, show k + 5 - 5 = k by omega, xRows_get h]
theorem xW_seth {a : XA} {S : XS} {k : Nat} {f : Nat → Int32} (h : k < 5) : (xW a S).set (4 + k) (xrh a k, .inl (xcI a, 24, .inl f)) = xW a (xsH S (va_up (xH S) k f)) := by
  rw [show 4 + k = k + 1 + 1 + 1 + 1 by omega]
  simp only [List.set_cons_succ]
  rw [List.set_append_left _ _ (by rw [xRows_len]; exact h), xRows_set]
theorem xW_setp {a : XA} {S : XS} {k : Nat} {f : Nat → Int32} : (xW a S).set (9 + k) (xrp a k, .inl (xcI a, 24, .inl f)) = xW a (xsP S (va_up (xP S) k f)) := by
  rw [show 9 + k = (k + 5) + 1 + 1 + 1 + 1 by omega]
  simp only [List.set_cons_succ]
  rw [List.set_append_right _ _ (by rw [xRows_len]; omega), xRows_len, show k + 5 - 5 = k by omega, xRows_set]
theorem xW_addr (a : XA) (S : XS) : (xW a S).map Prod.fst = xL a := by
  simp [xW, xL, xRows, Function.comp_def]
/-- the addresses are apart whatever is held -/
theorem xD {a : XA} (h : xOk a) (S : XS) : va_D (xA a) (xW a S) := by
  have e := xW_addr a S
  refine ⟨fun i j p q hp hq hpq => ?_, fun k q hk => ?_⟩
  · have h1 : (xL a)[i]? = some p.1 := by rw [← e, List.getElem?_map, hp]; rfl
    have h2 : (xL a)[j]? = some p.1 := by rw [← e, List.getElem?_map, hq, hpq]; rfl
    exact h i j _ h1 h2
  · show q.1 ∈ xL a
    rw [← e]
    exact List.mem_map.mpr ⟨q, List.mem_of_getElem? hk, rfl⟩
/-- the world of a method of the class -/
abbrev xB (D : va_G) (a : XA) (S : XS) (t : State) : Prop := va_P D vwCl (xW a S) t.heap ∧ va_K D vwCl (xT a) t
abbrev xQi (D : va_G) (a : XA) (F : Int32 × XS) : Array Value → State → Outcome → State → Prop := va_Qi (fun (r : Int32) (u : XS) => F = (r, u)) (xB D a) (xA a)
abbrev xQv (D : va_G) (a : XA) (F : XS) : Array Value → State → Outcome → State → Prop := va_Qv (fun (u : XS) => F = u) (xB D a) (xA a)
abbrev pQi (F : Int32) : Array Value → State → Outcome → State → Prop := va_Qi (fun (r : Int32) (_ : Unit) => F = r) (fun _ _ => True) (fun _ => False)
theorem xBlind {D : va_G} {a : XA} {S : XS} {av : List Value} : FrameBlind (va_Pc av (xB D a S)) := fun a U g mk q => by
  obtain ⟨q0, qP, qK⟩ := q
  exact ⟨q0, qP, va_K.moved (u := U) (U := U.calling g mk a) (Vm.Alike.refl U.vm) qK⟩
theorem xPreV {s : State} {H : Heap} {D : va_G} {a : XA} {S : XS} {As : List Value} (hK : va_K D vwCl (xT a) s) (hP : va_P D vwCl (xW a S) H) : PreV s H RX0 (xa a) (va_Pc (.ref (xa a) :: As) (xB D a S)) As :=
  ⟨xBlind, va_recv (q := (RX0, TX0, 10)) hK hP (ci := 0) (q0 := 0) rfl rfl, fun U hU hW => ⟨rfl, by rw [hU]; exact hP, va_K.moved hW.alike hK⟩⟩
theorem pPreS {s : State} {H : Heap} {As : List Value} : PreS s H (va_Pc As (fun _ => True)) As := ⟨fun _ _ _ _ q => q, fun _ _ _ => ⟨rfl, trivial⟩⟩
theorem vk_lt {i : Int32} {n : Nat} (h : vp_in i n) : i.toNatClampNeg < n := Nat.not_le.mp fun q => h (Or.inr q)
theorem P_kept {D : va_G} {cl : List vw_C} {ws : va_W} {H H1 : Heap} (hP : va_P D cl ws H) (hk : ∀ q : Nat, q < H.size → ¬ False → H1[q]? = H[q]?) : va_P D cl ws H1 := hP.kept (fun k q hq => hk q.1 ((hP k q hq).lt) id)
section XR
variable {p : Program} {l : Launch} {e : Env} {R : Room} {s : State} {m : MethodId} {args : Array Value} {below : List Frame} {meth : Method} {c : Code} {H : Heap} {locs : List Loc} {cells slots : Nat} {Q : State → Prop}
variable {cc : ByteArray} {pc : Nat} {ls : Array Slot} {rest : List Value} {D : va_G} {a : XA} {S : XS} {H0 : Heap} {Ts : List Cond}
theorem x_get (hexec : p.tables.exec = Jvm.exec) (hb : c.code = cc) {index : Nat} (hts : ∀ w ∈ Ts, w.before args s = true) (hin : ∀ w ∈ wsX00, w ∈ Ts) (hown : s.vm.findClass RX0 = some m.cls) (hK : va_K D vwCl (xT a) s) (hP : va_P D vwCl (xW a S) H) (k : Nat) (hk : k < 10) (hlink : (Cond.fieldLink RX0 index "FlightBooks" (TX0 k).2.1 (TX0 k).2.2.1).before args s = true) (hc : (TX0 k).1 = "FlightBooks") {v : Value} (hv : (xFs a S)[k]? = some v) (hdg : decode cc pc = .ok (.getfield index, 3))
    (kk : W p l e R s m args below meth c H locs cells slots Q (F0 m (pc + 3) ls (v :: rest))) : W p l e R s m args below meth c H locs cells slots Q (F0 m pc ls (.ref (xa a) :: rest)) :=
  va_get (D := D) (ci := 0) (C := RX0) (T := TX0) (N := 10) hexec hb hts hin hown hK hP 0 rfl rfl k hk hlink (fun x h => by rw [hc] at h; exact h) hv hdg kk
theorem x_put (hexec : p.tables.exec = Jvm.exec) (hb : c.code = cc) {index : Nat} (hts : ∀ w ∈ Ts, w.before args s = true) (hin : ∀ w ∈ wsX00, w ∈ Ts) (hown : s.vm.findClass RX0 = some m.cls) (hO : xOk a) (hK : va_K D vwCl (xT a) s) (hP : va_P D vwCl (xW a S) H) (hS : va_S (xA a) H0 H locs) (k : Nat) (hk : k < 10) (hlink : (Cond.fieldLink RX0 index "FlightBooks" (TX0 k).2.1 (TX0 k).2.2.1).before args s = true) (hc : (TX0 k).1 = "FlightBooks") (hfin : (TX0 k).2.2.2 = false) (hd : parseFieldDescriptor (TX0 k).2.2.1 = some .int) {v : Int32} (S' : XS) (hS' : xFs a S' = (xFs a S).set k (.int v)) (hw : xW a S' = (xW a S).set 0 (xa a, .inr (0, xFs a S'))) (hdg : decode cc pc = .ok (.putfield index, 3))
    (kk : ∀ (H1 : Heap) (locs1 : List Loc), va_P D vwCl (xW a S') H1 → va_S (xA a) H0 H1 locs1 → W p l e R s m args below meth c H1 locs1 cells slots Q (F0 m (pc + 3) ls rest)) : W p l e R s m args below meth c H locs cells slots Q (F0 m pc ls (.int v :: .ref (xa a) :: rest)) :=
  va_put (D := D) (ci := 0) (v := .int v) (ty := .int) (C := RX0) (T := TX0) (N := 10) hexec hb hts hin tyX0 tyX0_ok nmX0 hown hK hP (xD hO S) hS 0 rfl rfl k hk hlink (fun x h => by rw [hc] at h; exact h) hfin hd rfl rfl hk hdg (fun H1 locs1 h1 _ h3 => kk H1 locs1 (by rw [hw, hS']; exact h1) h3)
/-- lineCounts -/
theorem x_ldc (hexec : p.tables.exec = Jvm.exec) (hb : c.code = cc) (hK : va_K D vwCl (xT a) s) (hP : va_P D vwCl (xW a S) H) {b : Int32} (hin : vp_in b 5) (hdg : decode cc pc = .ok (.iaload, 1))
    (kk : W p l e R s m args below meth c H locs cells slots Q (F0 m (pc + 1) ls (.int (xc S b) :: rest))) : W p l e R s m args below meth c H locs cells slots Q (F0 m pc ls (.int b :: .ref (xac a) :: rest)) :=
  va_iald hexec hb hK hP 1 0 rfl rfl hin hdg kk
theorem x_stc (hexec : p.tables.exec = Jvm.exec) (hb : c.code = cc) (hO : xOk a) (hK : va_K D vwCl (xT a) s) (hP : va_P D vwCl (xW a S) H) (hS : va_S (xA a) H0 H locs) {b v : Int32} (hin : vp_in b 5) (hdg : decode cc pc = .ok (.iastore, 1))
    (kk : ∀ (H1 : Heap) (locs1 : List Loc), va_P D vwCl (xW a (xsc S b v)) H1 → va_S (xA a) H0 H1 locs1 → W p l e R s m args below meth c H1 locs1 cells slots Q (F0 m (pc + 1) ls rest)) : W p l e R s m args below meth c H locs cells slots Q (F0 m pc ls (.int v :: .int b :: .ref (xac a) :: rest)) :=
  va_iast hexec hb hK hP (xD hO S) hS 1 0 rfl rfl hin hdg (fun H1 locs1 h1 _ h3 => kk H1 locs1 h1 h3)
/-- held[b], places[b] -/
theorem x_ald {ws : va_W} {tys : List (ClassId × FieldType)} (hexec : p.tables.exec = Jvm.exec) (hb : c.code = cc) (hK : va_K D vwCl tys s) (hP : va_P D vwCl ws H) (q0 t0 : Nat) {q n : Nat} {cA : ClassId} {r : Nat → Nat} (ha : ws[q0]? = some (q, .inl (cA, n, .inr (.inr (.inr (.inr (xq n r))))))) (ht : tys[t0]? = some (cA, .array .int)) {b : Int32} (hin : vp_in b n) (hdg : decode cc pc = .ok (.aaload, 1))
    (kk : W p l e R s m args below meth c H locs cells slots Q (F0 m (pc + 1) ls (.ref (r b.toNatClampNeg) :: rest))) : W p l e R s m args below meth c H locs cells slots Q (F0 m pc ls (.int b :: .ref q :: rest)) := by
  have hlt := vk_lt hin
  exact W.aald (v := .ref (r b.toNatClampNeg)) (ty := .array .int) hexec hb (hP q0 _ ha) ((hK.2 t0 _ ht).1 n (fun j => va_rf (xq n r j))) rfl (fun q => by cases q) (by show ¬ (b < 0 ∨ (arrV _ _ _).slots.size ≤ _); rw [arrV_size]; exact hin) (by show (arrV _ _ _).slots[_]? = _; rw [arrV_read _ _ hlt]; simp [xq, hlt, va_rf]) rfl rfl hdg kk
theorem x_aldh (hexec : p.tables.exec = Jvm.exec) (hb : c.code = cc) (hK : va_K D vwCl (xT a) s) (hP : va_P D vwCl (xW a S) H) {b : Int32} (hin : vp_in b 5) (hdg : decode cc pc = .ok (.aaload, 1))
    (kk : W p l e R s m args below meth c H locs cells slots Q (F0 m (pc + 1) ls (.ref (xrh a b.toNatClampNeg) :: rest))) : W p l e R s m args below meth c H locs cells slots Q (F0 m pc ls (.int b :: .ref (xah a) :: rest)) :=
  x_ald hexec hb hK hP 2 1 rfl rfl hin hdg kk
theorem x_aldp (hexec : p.tables.exec = Jvm.exec) (hb : c.code = cc) (hK : va_K D vwCl (xT a) s) (hP : va_P D vwCl (xW a S) H) {b : Int32} (hin : vp_in b 24) (hdg : decode cc pc = .ok (.aaload, 1))
    (kk : W p l e R s m args below meth c H locs cells slots Q (F0 m (pc + 1) ls (.ref (xrp a b.toNatClampNeg) :: rest))) : W p l e R s m args below meth c H locs cells slots Q (F0 m pc ls (.int b :: .ref (xap a) :: rest)) :=
  x_ald hexec hb hK hP 3 1 rfl rfl hin hdg kk
theorem x_ldh (hexec : p.tables.exec = Jvm.exec) (hb : c.code = cc) (hK : va_K D vwCl (xT a) s) (hP : va_P D vwCl (xW a S) H) {b i : Int32} (hb5 : vp_in b 5) (hin : vp_in i 24) (hdg : decode cc pc = .ok (.iaload, 1))
    (kk : W p l e R s m args below meth c H locs cells slots Q (F0 m (pc + 1) ls (.int (xh S b i) :: rest))) : W p l e R s m args below meth c H locs cells slots Q (F0 m pc ls (.int i :: .ref (xrh a b.toNatClampNeg) :: rest)) :=
  va_iald hexec hb hK hP (4 + b.toNatClampNeg) 0 (xW_h (vk_lt hb5)) rfl hin hdg kk
theorem x_ldp (hexec : p.tables.exec = Jvm.exec) (hb : c.code = cc) (hK : va_K D vwCl (xT a) s) (hP : va_P D vwCl (xW a S) H) {b i : Int32} (hb5 : vp_in b 24) (hin : vp_in i 24) (hdg : decode cc pc = .ok (.iaload, 1))
    (kk : W p l e R s m args below meth c H locs cells slots Q (F0 m (pc + 1) ls (.int (xp S b i) :: rest))) : W p l e R s m args below meth c H locs cells slots Q (F0 m pc ls (.int i :: .ref (xrp a b.toNatClampNeg) :: rest)) :=
  va_iald hexec hb hK hP (9 + b.toNatClampNeg) 0 (xW_p (vk_lt hb5)) rfl hin hdg kk
theorem x_sth (hexec : p.tables.exec = Jvm.exec) (hb : c.code = cc) (hO : xOk a) (hK : va_K D vwCl (xT a) s) (hP : va_P D vwCl (xW a S) H) (hS : va_S (xA a) H0 H locs) {b i v : Int32} (hb5 : vp_in b 5) (hin : vp_in i 24) (hdg : decode cc pc = .ok (.iastore, 1))
    (kk : ∀ (H1 : Heap) (locs1 : List Loc), va_P D vwCl (xW a (xsh S b i v)) H1 → va_S (xA a) H0 H1 locs1 → W p l e R s m args below meth c H1 locs1 cells slots Q (F0 m (pc + 1) ls rest)) : W p l e R s m args below meth c H locs cells slots Q (F0 m pc ls (.int v :: .int i :: .ref (xrh a b.toNatClampNeg) :: rest)) :=
  va_iast hexec hb hK hP (xD hO S) hS (4 + b.toNatClampNeg) 0 (xW_h (vk_lt hb5)) rfl hin hdg (fun H1 locs1 h1 _ h3 => kk H1 locs1 (by rw [← xW_seth (vk_lt hb5)]; exact h1) h3)
theorem x_stp (hexec : p.tables.exec = Jvm.exec) (hb : c.code = cc) (hO : xOk a) (hK : va_K D vwCl (xT a) s) (hP : va_P D vwCl (xW a S) H) (hS : va_S (xA a) H0 H locs) {b i v : Int32} (hb5 : vp_in b 24) (hin : vp_in i 24) (hdg : decode cc pc = .ok (.iastore, 1))
    (kk : ∀ (H1 : Heap) (locs1 : List Loc), va_P D vwCl (xW a (xsp S b i v)) H1 → va_S (xA a) H0 H1 locs1 → W p l e R s m args below meth c H1 locs1 cells slots Q (F0 m (pc + 1) ls rest)) : W p l e R s m args below meth c H locs cells slots Q (F0 m pc ls (.int v :: .int i :: .ref (xrp a b.toNatClampNeg) :: rest)) :=
  va_iast hexec hb hK hP (xD hO S) hS (9 + b.toNatClampNeg) 0 (xW_p (vk_lt hb5)) rfl hin hdg (fun H1 locs1 h1 _ h3 => kk H1 locs1 (by rw [← xW_setp]; exact h1) h3)
end XR
