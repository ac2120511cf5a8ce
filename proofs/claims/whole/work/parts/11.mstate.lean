/-! the reference's state (FlightBooksModel) as a value; the cells that hold it -/
abbrev MS : Type := Int32 × (Nat → Int32) × (Nat → Int32) × (Nat → Int32) × Int32 × Int32 × Int32 × Int32 × Int32 × Int32 × Int32 × Int32
abbrev mN (S : MS) : Int32 := S.1
abbrev mC (S : MS) : Nat → Int32 := S.2.1
abbrev mH (S : MS) : Nat → Int32 := S.2.2.1
abbrev mP (S : MS) : Nat → Int32 := S.2.2.2.1
abbrev mCh (S : MS) : Int32 := S.2.2.2.2.1
abbrev mRw (S : MS) : Int32 := S.2.2.2.2.2.1
abbrev mAc (S : MS) : Int32 := S.2.2.2.2.2.2.1
abbrev mOu (S : MS) : Int32 := S.2.2.2.2.2.2.2.1
abbrev mOl (S : MS) : Int32 := S.2.2.2.2.2.2.2.2.1
abbrev mFs (S : MS) : Int32 := S.2.2.2.2.2.2.2.2.2.1
abbrev mLa (S : MS) : Int32 := S.2.2.2.2.2.2.2.2.2.2.1
abbrev mFa (S : MS) : Int32 := S.2.2.2.2.2.2.2.2.2.2.2
abbrev msC (S : MS) (v : Nat → Int32) : MS := (mN S, v, mH S, mP S, mCh S, mRw S, mAc S, mOu S, mOl S, mFs S, mLa S, mFa S)
abbrev msH (S : MS) (v : Nat → Int32) : MS := (mN S, mC S, v, mP S, mCh S, mRw S, mAc S, mOu S, mOl S, mFs S, mLa S, mFa S)
abbrev msP (S : MS) (v : Nat → Int32) : MS := (mN S, mC S, mH S, v, mCh S, mRw S, mAc S, mOu S, mOl S, mFs S, mLa S, mFa S)
abbrev msCh (S : MS) (v : Int32) : MS := (mN S, mC S, mH S, mP S, v, mRw S, mAc S, mOu S, mOl S, mFs S, mLa S, mFa S)
abbrev msRw (S : MS) (v : Int32) : MS := (mN S, mC S, mH S, mP S, mCh S, v, mAc S, mOu S, mOl S, mFs S, mLa S, mFa S)
abbrev msAc (S : MS) (v : Int32) : MS := (mN S, mC S, mH S, mP S, mCh S, mRw S, v, mOu S, mOl S, mFs S, mLa S, mFa S)
abbrev msOu (S : MS) (v : Int32) : MS := (mN S, mC S, mH S, mP S, mCh S, mRw S, mAc S, v, mOl S, mFs S, mLa S, mFa S)
abbrev msOl (S : MS) (v : Int32) : MS := (mN S, mC S, mH S, mP S, mCh S, mRw S, mAc S, mOu S, v, mFs S, mLa S, mFa S)
abbrev msFs (S : MS) (v : Int32) : MS := (mN S, mC S, mH S, mP S, mCh S, mRw S, mAc S, mOu S, mOl S, v, mLa S, mFa S)
abbrev msLa (S : MS) (v : Int32) : MS := (mN S, mC S, mH S, mP S, mCh S, mRw S, mAc S, mOu S, mOl S, mFs S, v, mFa S)
abbrev msFa (S : MS) (v : Int32) : MS := (mN S, mC S, mH S, mP S, mCh S, mRw S, mAc S, mOu S, mOl S, mFs S, mLa S, v)
abbrev mc (S : MS) (b : Int32) : Int32 := mC S b.toNatClampNeg
abbrev mh (S : MS) (k : Int32) : Int32 := mH S k.toNatClampNeg
abbrev mp (S : MS) (k : Int32) : Int32 := mP S k.toNatClampNeg
abbrev msc (S : MS) (b v : Int32) : MS := msC S (upd (mC S) b.toNatClampNeg v)
abbrev msh (S : MS) (b v : Int32) : MS := msH S (upd (mH S) b.toNatClampNeg v)
abbrev msp (S : MS) (b v : Int32) : MS := msP S (upd (mP S) b.toNatClampNeg v)
/-- where its cells are: the object, many, cells, places; the class of int[] -/
abbrev MA : Type := Nat × Nat × Nat × Nat × ClassId
abbrev ma (a : MA) : Nat := a.1
abbrev mac (a : MA) : Nat := a.2.1
abbrev mah (a : MA) : Nat := a.2.2.1
abbrev map' (a : MA) : Nat := a.2.2.2.1
abbrev mcI (a : MA) : ClassId := a.2.2.2.2
abbrev mFl (a : MA) (S : MS) : List Value := [.int (mN S), .ref (mac a), .ref (mah a), .ref (map' a), .int (mCh S), .int (mRw S), .int (mAc S), .int (mOu S), .int (mOl S), .int (mFs S), .int (mLa S), .int (mFa S)]
abbrev mW (a : MA) (S : MS) : va_W := [(ma a, .inr (1, mFl a S)), (mac a, .inl (mcI a, 5, .inl (mC S))), (mah a, .inl (mcI a, 120, .inl (mH S))), (map' a, .inl (mcI a, 576, .inl (mP S)))]
abbrev mT (a : MA) : List (ClassId × FieldType) := [(mcI a, .int)]
def mL (a : MA) : List Nat := [ma a, mac a, mah a, map' a]
def mA (a : MA) : Nat → Prop := fun q => q ∈ mL a
def mOk (a : MA) : Prop := ∀ (i j x : Nat), (mL a)[i]? = some x → (mL a)[j]? = some x → i = j
theorem mD {a : MA} (h : mOk a) (S : MS) : va_D (mA a) (mW a S) := by
  have e : (mW a S).map Prod.fst = mL a := rfl
  refine ⟨fun i j p q hp hq hpq => ?_, fun k q hk => ?_⟩
  · have h1 : (mL a)[i]? = some p.1 := by rw [← e, List.getElem?_map, hp]; rfl
    have h2 : (mL a)[j]? = some p.1 := by rw [← e, List.getElem?_map, hq, hpq]; rfl
    exact h i j _ h1 h2
  · show q.1 ∈ mL a
    rw [← e]
    exact List.mem_map.mpr ⟨q, List.mem_of_getElem? hk, rfl⟩
abbrev mB (D : va_G) (a : MA) (S : MS) (t : State) : Prop := va_P D vwCl (mW a S) t.heap ∧ va_K D vwCl (mT a) t
abbrev mQi (D : va_G) (a : MA) (F : Int32 × MS) : Array Value → State → Outcome → State → Prop := va_Qi (fun (r : Int32) (u : MS) => F = (r, u)) (mB D a) (mA a)
abbrev mQv (D : va_G) (a : MA) (F : MS) : Array Value → State → Outcome → State → Prop := va_Qv (fun (u : MS) => F = u) (mB D a) (mA a)
theorem mBlind {D : va_G} {a : MA} {S : MS} {av : List Value} : FrameBlind (va_Pc av (mB D a S)) := fun a U g mk q => by
  obtain ⟨q0, qP, qK⟩ := q
  exact ⟨q0, qP, va_K.moved (u := U) (U := U.calling g mk a) (Vm.Alike.refl U.vm) qK⟩
theorem mPreV {s : State} {H : Heap} {D : va_G} {a : MA} {S : MS} {As : List Value} (hK : va_K D vwCl (mT a) s) (hP : va_P D vwCl (mW a S) H) : PreV s H RX1 (ma a) (va_Pc (.ref (ma a) :: As) (mB D a S)) As :=
  ⟨mBlind, va_recv (q := (RX1, TX1, 12)) hK hP (ci := 1) (q0 := 0) rfl rfl, fun U hU hW => ⟨rfl, by rw [hU]; exact hP, va_K.moved hW.alike hK⟩⟩
section MR
variable {p : Program} {l : Launch} {e : Env} {R : Room} {s : State} {m : MethodId} {args : Array Value} {below : List Frame} {meth : Method} {c : Code} {H : Heap} {locs : List Loc} {cells slots : Nat} {Q : State → Prop}
variable {cc : ByteArray} {pc : Nat} {ls : Array Slot} {rest : List Value} {D : va_G} {a : MA} {S : MS} {H0 : Heap} {Ts : List Cond}
theorem m_get (hexec : p.tables.exec = Jvm.exec) (hb : c.code = cc) {index : Nat} (hts : ∀ w ∈ Ts, w.before args s = true) (hin : ∀ w ∈ wsX10, w ∈ Ts) (hown : s.vm.findClass RX1 = some m.cls) (hK : va_K D vwCl (mT a) s) (hP : va_P D vwCl (mW a S) H) (k : Nat) (hk : k < 12) (hlink : (Cond.fieldLink RX1 index "FlightBooksModel" (TX1 k).2.1 (TX1 k).2.2.1).before args s = true) (hc : (TX1 k).1 = "FlightBooksModel") {v : Value} (hv : (mFl a S)[k]? = some v) (hdg : decode cc pc = .ok (.getfield index, 3))
    (kk : W p l e R s m args below meth c H locs cells slots Q (F0 m (pc + 3) ls (v :: rest))) : W p l e R s m args below meth c H locs cells slots Q (F0 m pc ls (.ref (ma a) :: rest)) :=
  va_get (D := D) (ci := 1) (C := RX1) (T := TX1) (N := 12) hexec hb hts hin hown hK hP 0 rfl rfl k hk hlink (fun x h => by rw [hc] at h; exact h) hv hdg kk
theorem m_put (hexec : p.tables.exec = Jvm.exec) (hb : c.code = cc) {index : Nat} (hts : ∀ w ∈ Ts, w.before args s = true) (hin : ∀ w ∈ wsX10, w ∈ Ts) (hown : s.vm.findClass RX1 = some m.cls) (hO : mOk a) (hK : va_K D vwCl (mT a) s) (hP : va_P D vwCl (mW a S) H) (hS : va_S (mA a) H0 H locs) (k : Nat) (hk : k < 12) (hlink : (Cond.fieldLink RX1 index "FlightBooksModel" (TX1 k).2.1 (TX1 k).2.2.1).before args s = true) (hc : (TX1 k).1 = "FlightBooksModel") (hfin : (TX1 k).2.2.2 = false) {ty : FieldType} (hd : parseFieldDescriptor (TX1 k).2.2.1 = some ty) {v : Int32} (hn : narrow ty (.int v) = .int v) (hfit : fits ty (.int v) = true) (S' : MS) (hS' : mFl a S' = (mFl a S).set k (.int v)) (hw : mW a S' = (mW a S).set 0 (ma a, .inr (1, mFl a S'))) (hdg : decode cc pc = .ok (.putfield index, 3))
    (kk : ∀ (H1 : Heap) (locs1 : List Loc), va_P D vwCl (mW a S') H1 → va_S (mA a) H0 H1 locs1 → W p l e R s m args below meth c H1 locs1 cells slots Q (F0 m (pc + 3) ls rest)) : W p l e R s m args below meth c H locs cells slots Q (F0 m pc ls (.int v :: .ref (ma a) :: rest)) :=
  va_put (D := D) (ci := 1) (v := .int v) (ty := ty) (C := RX1) (T := TX1) (N := 12) hexec hb hts hin tyX1 tyX1_ok nmX1 hown hK hP (mD hO S) hS 0 rfl rfl k hk hlink (fun x h => by rw [hc] at h; exact h) hfin hd hn hfit hk hdg (fun H1 locs1 h1 _ h3 => kk H1 locs1 (by rw [hw, hS']; exact h1) h3)
theorem m_ldc (hexec : p.tables.exec = Jvm.exec) (hb : c.code = cc) (hK : va_K D vwCl (mT a) s) (hP : va_P D vwCl (mW a S) H) {b : Int32} (hin : vp_in b 5) (hdg : decode cc pc = .ok (.iaload, 1))
    (kk : W p l e R s m args below meth c H locs cells slots Q (F0 m (pc + 1) ls (.int (mc S b) :: rest))) : W p l e R s m args below meth c H locs cells slots Q (F0 m pc ls (.int b :: .ref (mac a) :: rest)) :=
  va_iald hexec hb hK hP 1 0 rfl rfl hin hdg kk
theorem m_stc (hexec : p.tables.exec = Jvm.exec) (hb : c.code = cc) (hO : mOk a) (hK : va_K D vwCl (mT a) s) (hP : va_P D vwCl (mW a S) H) (hS : va_S (mA a) H0 H locs) {b v : Int32} (hin : vp_in b 5) (hdg : decode cc pc = .ok (.iastore, 1))
    (kk : ∀ (H1 : Heap) (locs1 : List Loc), va_P D vwCl (mW a (msc S b v)) H1 → va_S (mA a) H0 H1 locs1 → W p l e R s m args below meth c H1 locs1 cells slots Q (F0 m (pc + 1) ls rest)) : W p l e R s m args below meth c H locs cells slots Q (F0 m pc ls (.int v :: .int b :: .ref (mac a) :: rest)) :=
  va_iast hexec hb hK hP (mD hO S) hS 1 0 rfl rfl hin hdg (fun H1 locs1 h1 _ h3 => kk H1 locs1 h1 h3)
theorem m_ldh (hexec : p.tables.exec = Jvm.exec) (hb : c.code = cc) (hK : va_K D vwCl (mT a) s) (hP : va_P D vwCl (mW a S) H) {b : Int32} (hin : vp_in b 120) (hdg : decode cc pc = .ok (.iaload, 1))
    (kk : W p l e R s m args below meth c H locs cells slots Q (F0 m (pc + 1) ls (.int (mh S b) :: rest))) : W p l e R s m args below meth c H locs cells slots Q (F0 m pc ls (.int b :: .ref (mah a) :: rest)) :=
  va_iald hexec hb hK hP 2 0 rfl rfl hin hdg kk
theorem m_sth (hexec : p.tables.exec = Jvm.exec) (hb : c.code = cc) (hO : mOk a) (hK : va_K D vwCl (mT a) s) (hP : va_P D vwCl (mW a S) H) (hS : va_S (mA a) H0 H locs) {b v : Int32} (hin : vp_in b 120) (hdg : decode cc pc = .ok (.iastore, 1))
    (kk : ∀ (H1 : Heap) (locs1 : List Loc), va_P D vwCl (mW a (msh S b v)) H1 → va_S (mA a) H0 H1 locs1 → W p l e R s m args below meth c H1 locs1 cells slots Q (F0 m (pc + 1) ls rest)) : W p l e R s m args below meth c H locs cells slots Q (F0 m pc ls (.int v :: .int b :: .ref (mah a) :: rest)) :=
  va_iast hexec hb hK hP (mD hO S) hS 2 0 rfl rfl hin hdg (fun H1 locs1 h1 _ h3 => kk H1 locs1 h1 h3)
theorem m_ldp (hexec : p.tables.exec = Jvm.exec) (hb : c.code = cc) (hK : va_K D vwCl (mT a) s) (hP : va_P D vwCl (mW a S) H) {b : Int32} (hin : vp_in b 576) (hdg : decode cc pc = .ok (.iaload, 1))
    (kk : W p l e R s m args below meth c H locs cells slots Q (F0 m (pc + 1) ls (.int (mp S b) :: rest))) : W p l e R s m args below meth c H locs cells slots Q (F0 m pc ls (.int b :: .ref (map' a) :: rest)) :=
  va_iald hexec hb hK hP 3 0 rfl rfl hin hdg kk
theorem m_stp (hexec : p.tables.exec = Jvm.exec) (hb : c.code = cc) (hO : mOk a) (hK : va_K D vwCl (mT a) s) (hP : va_P D vwCl (mW a S) H) (hS : va_S (mA a) H0 H locs) {b v : Int32} (hin : vp_in b 576) (hdg : decode cc pc = .ok (.iastore, 1))
    (kk : ∀ (H1 : Heap) (locs1 : List Loc), va_P D vwCl (mW a (msp S b v)) H1 → va_S (mA a) H0 H1 locs1 → W p l e R s m args below meth c H1 locs1 cells slots Q (F0 m (pc + 1) ls rest)) : W p l e R s m args below meth c H locs cells slots Q (F0 m pc ls (.int v :: .int b :: .ref (map' a) :: rest)) :=
  va_iast hexec hb hK hP (mD hO S) hS 3 0 rfl rfl hin hdg (fun H1 locs1 h1 _ h3 => kk H1 locs1 h1 h3)
theorem m_puti (hexec : p.tables.exec = Jvm.exec) (hb : c.code = cc) {index : Nat} (hts : ∀ w ∈ Ts, w.before args s = true) (hin : ∀ w ∈ wsX10, w ∈ Ts) (hown : s.vm.findClass RX1 = some m.cls) (hO : mOk a) (hK : va_K D vwCl (mT a) s) (hP : va_P D vwCl (mW a S) H) (hS : va_S (mA a) H0 H locs) (k : Nat) (hk : k < 12) (hlink : (Cond.fieldLink RX1 index "FlightBooksModel" (TX1 k).2.1 (TX1 k).2.2.1).before args s = true) (hc : (TX1 k).1 = "FlightBooksModel") (hfin : (TX1 k).2.2.2 = false) (hd : parseFieldDescriptor (TX1 k).2.2.1 = some .int) {v : Int32} (S' : Int32 → MS) (hS' : ∀ v, mFl a (S' v) = (mFl a S).set k (.int v)) (hw : ∀ v, mW a (S' v) = (mW a S).set 0 (ma a, .inr (1, mFl a (S' v)))) (hdg : decode cc pc = .ok (.putfield index, 3))
    (kk : ∀ (H1 : Heap) (locs1 : List Loc), va_P D vwCl (mW a (S' v)) H1 → va_S (mA a) H0 H1 locs1 → W p l e R s m args below meth c H1 locs1 cells slots Q (F0 m (pc + 3) ls rest)) : W p l e R s m args below meth c H locs cells slots Q (F0 m pc ls (.int v :: .ref (ma a) :: rest)) :=
  m_put (ty := .int) hexec hb hts hin hown hO hK hP hS k hk hlink hc hfin hd rfl rfl (S' v) (hS' v) (hw v) hdg kk
end MR
