section
-- ===== PART A: goes FIRST, ahead of the names: the tables' words, and 'selects' of the private methods out of them =====
/-- a private method of a class that the tables say can be made, by its rows of tables_1 -/
def lw_okq (q : MethodName × Nat) : Prop := (q.1.cls ≠ "java/lang/invoke/MethodHandle" ∧ q.1.cls ≠ "java/lang/invoke/VarHandle") ∧ Cond.instantiable q.1.cls q.2 ∈ tables_1 ∧ Cond.privateMethod q.1 ∈ tables_1 ∧ Cond.instanceMethod q.1 ∈ tables_1
theorem lw_p0 : lw_okq (⟨"FlightBooks", "endsAtBook", "(I)Z"⟩, 10) := ⟨⟨by decide +kernel, by decide +kernel⟩, List.mem_of_getElem? (i := 6) (by decide +kernel), List.mem_of_getElem? (i := 76) (by decide +kernel), List.mem_of_getElem? (i := 77) (by decide +kernel)⟩
theorem lw_p1 : lw_okq (⟨"FlightBooks", "ended", "(I)Z"⟩, 10) := ⟨⟨by decide +kernel, by decide +kernel⟩, List.mem_of_getElem? (i := 6) (by decide +kernel), List.mem_of_getElem? (i := 81) (by decide +kernel), List.mem_of_getElem? (i := 82) (by decide +kernel)⟩
theorem lw_p2 : lw_okq (⟨"FlightBooks", "endsAtLine", "(II)Z"⟩, 10) := ⟨⟨by decide +kernel, by decide +kernel⟩, List.mem_of_getElem? (i := 6) (by decide +kernel), List.mem_of_getElem? (i := 89) (by decide +kernel), List.mem_of_getElem? (i := 90) (by decide +kernel)⟩
theorem lw_p3 : lw_okq (⟨"FlightBooks", "put", "(III)V"⟩, 10) := ⟨⟨by decide +kernel, by decide +kernel⟩, List.mem_of_getElem? (i := 6) (by decide +kernel), List.mem_of_getElem? (i := 101) (by decide +kernel), List.mem_of_getElem? (i := 102) (by decide +kernel)⟩
theorem lw_p4 : lw_okq (⟨"FlightBooks", "isChamber", "(I)Z"⟩, 10) := ⟨⟨by decide +kernel, by decide +kernel⟩, List.mem_of_getElem? (i := 6) (by decide +kernel), List.mem_of_getElem? (i := 136) (by decide +kernel), List.mem_of_getElem? (i := 137) (by decide +kernel)⟩
theorem lw_p5 : lw_okq (⟨"FlightBooks", "isLast", "(I)Z"⟩, 10) := ⟨⟨by decide +kernel, by decide +kernel⟩, List.mem_of_getElem? (i := 6) (by decide +kernel), List.mem_of_getElem? (i := 140) (by decide +kernel), List.mem_of_getElem? (i := 141) (by decide +kernel)⟩
theorem lw_p6 : lw_okq (⟨"FlightBooks", "endsAtArrival", "(III)Z"⟩, 10) := ⟨⟨by decide +kernel, by decide +kernel⟩, List.mem_of_getElem? (i := 6) (by decide +kernel), List.mem_of_getElem? (i := 156) (by decide +kernel), List.mem_of_getElem? (i := 157) (by decide +kernel)⟩
theorem lw_p7 : lw_okq (⟨"FlightBooks", "goOut", "(I)I"⟩, 10) := ⟨⟨by decide +kernel, by decide +kernel⟩, List.mem_of_getElem? (i := 6) (by decide +kernel), List.mem_of_getElem? (i := 164) (by decide +kernel), List.mem_of_getElem? (i := 165) (by decide +kernel)⟩
theorem lw_p8 : lw_okq (⟨"FlightBooks", "leave", "(I)I"⟩, 10) := ⟨⟨by decide +kernel, by decide +kernel⟩, List.mem_of_getElem? (i := 6) (by decide +kernel), List.mem_of_getElem? (i := 168) (by decide +kernel), List.mem_of_getElem? (i := 169) (by decide +kernel)⟩
theorem lw_p9 : lw_okq (⟨"FlightBooks", "goOn", "(I)I"⟩, 10) := ⟨⟨by decide +kernel, by decide +kernel⟩, List.mem_of_getElem? (i := 6) (by decide +kernel), List.mem_of_getElem? (i := 172) (by decide +kernel), List.mem_of_getElem? (i := 173) (by decide +kernel)⟩
theorem lw_p10 : lw_okq (⟨"FlightBooks", "endsAtPlace", "(II)Z"⟩, 10) := ⟨⟨by decide +kernel, by decide +kernel⟩, List.mem_of_getElem? (i := 6) (by decide +kernel), List.mem_of_getElem? (i := 184) (by decide +kernel), List.mem_of_getElem? (i := 185) (by decide +kernel)⟩
theorem lw_p11 : lw_okq (⟨"FlightBooks", "endsAtRow", "(I)Z"⟩, 10) := ⟨⟨by decide +kernel, by decide +kernel⟩, List.mem_of_getElem? (i := 6) (by decide +kernel), List.mem_of_getElem? (i := 188) (by decide +kernel), List.mem_of_getElem? (i := 189) (by decide +kernel)⟩
theorem lw_p12 : lw_okq (⟨"FlightBooks", "booksKept", "()I"⟩, 10) := ⟨⟨by decide +kernel, by decide +kernel⟩, List.mem_of_getElem? (i := 6) (by decide +kernel), List.mem_of_getElem? (i := 207) (by decide +kernel), List.mem_of_getElem? (i := 208) (by decide +kernel)⟩
theorem lw_p13 : lw_okq (⟨"FlightBooksModel", "answer", "(I)I"⟩, 12) := ⟨⟨by decide +kernel, by decide +kernel⟩, List.mem_of_getElem? (i := 214) (by decide +kernel), List.mem_of_getElem? (i := 274) (by decide +kernel), List.mem_of_getElem? (i := 275) (by decide +kernel)⟩
theorem lw_p14 : lw_okq (⟨"FlightBooksModel", "cell", "(II)I"⟩, 12) := ⟨⟨by decide +kernel, by decide +kernel⟩, List.mem_of_getElem? (i := 214) (by decide +kernel), List.mem_of_getElem? (i := 282) (by decide +kernel), List.mem_of_getElem? (i := 283) (by decide +kernel)⟩
theorem lw_p15 : lw_okq (⟨"FlightBooksModel", "has", "(II)Z"⟩, 12) := ⟨⟨by decide +kernel, by decide +kernel⟩, List.mem_of_getElem? (i := 214) (by decide +kernel), List.mem_of_getElem? (i := 286) (by decide +kernel), List.mem_of_getElem? (i := 287) (by decide +kernel)⟩
def lw_privs_1 : List (MethodName × Nat) := [(⟨"FlightBooks", "endsAtBook", "(I)Z"⟩, 10), (⟨"FlightBooks", "ended", "(I)Z"⟩, 10), (⟨"FlightBooks", "endsAtLine", "(II)Z"⟩, 10), (⟨"FlightBooks", "put", "(III)V"⟩, 10), (⟨"FlightBooks", "isChamber", "(I)Z"⟩, 10), (⟨"FlightBooks", "isLast", "(I)Z"⟩, 10), (⟨"FlightBooks", "endsAtArrival", "(III)Z"⟩, 10), (⟨"FlightBooks", "goOut", "(I)I"⟩, 10), (⟨"FlightBooks", "leave", "(I)I"⟩, 10), (⟨"FlightBooks", "goOn", "(I)I"⟩, 10), (⟨"FlightBooks", "endsAtPlace", "(II)Z"⟩, 10), (⟨"FlightBooks", "endsAtRow", "(I)Z"⟩, 10), (⟨"FlightBooks", "booksKept", "()I"⟩, 10), (⟨"FlightBooksModel", "answer", "(I)I"⟩, 12), (⟨"FlightBooksModel", "cell", "(II)I"⟩, 12), (⟨"FlightBooksModel", "has", "(II)Z"⟩, 12)]
theorem lw_r1 : ∀ q ∈ lw_privs_1, lw_okq q := List.forall_mem_cons.mpr ⟨lw_p0, List.forall_mem_cons.mpr ⟨lw_p1, List.forall_mem_cons.mpr ⟨lw_p2, List.forall_mem_cons.mpr ⟨lw_p3, List.forall_mem_cons.mpr ⟨lw_p4, List.forall_mem_cons.mpr ⟨lw_p5, List.forall_mem_cons.mpr ⟨lw_p6, List.forall_mem_cons.mpr ⟨lw_p7, List.forall_mem_cons.mpr ⟨lw_p8, List.forall_mem_cons.mpr ⟨lw_p9, List.forall_mem_cons.mpr ⟨lw_p10, List.forall_mem_cons.mpr ⟨lw_p11, List.forall_mem_cons.mpr ⟨lw_p12, List.forall_mem_cons.mpr ⟨lw_p13, List.forall_mem_cons.mpr ⟨lw_p14, List.forall_mem_cons.mpr ⟨lw_p15, fun _ h => absurd h List.not_mem_nil⟩⟩⟩⟩⟩⟩⟩⟩⟩⟩⟩⟩⟩⟩⟩⟩
theorem lw_p16 : lw_okq (⟨"FlightBooksModel", "put", "(III)V"⟩, 12) := ⟨⟨by decide +kernel, by decide +kernel⟩, List.mem_of_getElem? (i := 214) (by decide +kernel), List.mem_of_getElem? (i := 298) (by decide +kernel), List.mem_of_getElem? (i := 299) (by decide +kernel)⟩
theorem lw_p17 : lw_okq (⟨"FlightBooksModel", "isChamber", "(I)Z"⟩, 12) := ⟨⟨by decide +kernel, by decide +kernel⟩, List.mem_of_getElem? (i := 214) (by decide +kernel), List.mem_of_getElem? (i := 328) (by decide +kernel), List.mem_of_getElem? (i := 329) (by decide +kernel)⟩
theorem lw_p18 : lw_okq (⟨"FlightBooksModel", "more", "(III)V"⟩, 12) := ⟨⟨by decide +kernel, by decide +kernel⟩, List.mem_of_getElem? (i := 214) (by decide +kernel), List.mem_of_getElem? (i := 332) (by decide +kernel), List.mem_of_getElem? (i := 333) (by decide +kernel)⟩
theorem lw_p19 : lw_okq (⟨"FlightBooksModel", "moved", "(II)I"⟩, 12) := ⟨⟨by decide +kernel, by decide +kernel⟩, List.mem_of_getElem? (i := 214) (by decide +kernel), List.mem_of_getElem? (i := 352) (by decide +kernel), List.mem_of_getElem? (i := 353) (by decide +kernel)⟩
theorem lw_p20 : lw_okq (⟨"FlightBooksModel", "hasPlace", "(II)Z"⟩, 12) := ⟨⟨by decide +kernel, by decide +kernel⟩, List.mem_of_getElem? (i := 214) (by decide +kernel), List.mem_of_getElem? (i := 364) (by decide +kernel), List.mem_of_getElem? (i := 365) (by decide +kernel)⟩
theorem lw_p21 : lw_okq (⟨"FlightBooksModel", "hasRow", "(I)Z"⟩, 12) := ⟨⟨by decide +kernel, by decide +kernel⟩, List.mem_of_getElem? (i := 214) (by decide +kernel), List.mem_of_getElem? (i := 368) (by decide +kernel), List.mem_of_getElem? (i := 369) (by decide +kernel)⟩
def lw_privs_2 : List (MethodName × Nat) := [(⟨"FlightBooksModel", "put", "(III)V"⟩, 12), (⟨"FlightBooksModel", "isChamber", "(I)Z"⟩, 12), (⟨"FlightBooksModel", "more", "(III)V"⟩, 12), (⟨"FlightBooksModel", "moved", "(II)I"⟩, 12), (⟨"FlightBooksModel", "hasPlace", "(II)Z"⟩, 12), (⟨"FlightBooksModel", "hasRow", "(I)Z"⟩, 12)]
theorem lw_r2 : ∀ q ∈ lw_privs_2, lw_okq q := List.forall_mem_cons.mpr ⟨lw_p16, List.forall_mem_cons.mpr ⟨lw_p17, List.forall_mem_cons.mpr ⟨lw_p18, List.forall_mem_cons.mpr ⟨lw_p19, List.forall_mem_cons.mpr ⟨lw_p20, List.forall_mem_cons.mpr ⟨lw_p21, fun _ h => absurd h List.not_mem_nil⟩⟩⟩⟩⟩⟩
def lw_privs : List (MethodName × Nat) := lw_privs_1 ++ (lw_privs_2)
def lw_tbl : List Cond := k2_sels lw_privs ++ tables_1
theorem lw_privs_ok : ∀ q ∈ lw_privs, lw_okq q := by
  show ∀ q ∈ lw_privs_1 ++ (lw_privs_2), lw_okq q
  exact List.forall_mem_append.mpr ⟨lw_r1, lw_r2⟩
end
section
/-! ===== BEGIN words of one list among another's, by their places ===== -/
theorem goodIn_r {big : List Cond} (ws : List Cond) (ps : List Nat) (hp : ws = ps.filterMap (fun i => big[i]?)) (h : ws.all goodWord = true) : GoodIn big ws := by
  intro w hw
  have h1 := List.all_eq_true.mp h w hw
  rw [hp] at hw
  obtain ⟨i, -, hi⟩ := List.mem_filterMap.mp hw
  have hm : w ∈ big := by first | exact List.mem_of_getElem? hi | exact List.getElem?_mem hi
  exact ⟨hm, good_of_word h1⟩
theorem goodIn_app {big a b : List Cond} (ha : GoodIn big a) (hb : GoodIn big b) : GoodIn big (a ++ b) := fun w h => (List.mem_append.mp h).elim (ha w) (hb w)
theorem goodIn_ca {big a b : List Cond} {c : Cond} (ha : GoodIn big (c :: a)) (hb : GoodIn big b) : GoodIn big (c :: (a ++ b)) := fun w h => (List.mem_cons.mp h).elim (fun e => ha w (List.mem_cons.mpr (Or.inl e))) (fun h => (List.mem_append.mp h).elim (fun h => ha w (List.mem_cons.mpr (Or.inr h))) (hb w))
theorem goodIn_sub {big ws : List Cond} (hm : ∀ w ∈ ws, w ∈ big) (h : ws.all goodWord = true) : GoodIn big ws := fun w hw => ⟨hm w hw, good_of_word (List.all_eq_true.mp h w hw)⟩
/-! ===== END ===== -/

/-! ===== BEGIN new T[n][m]: the outer array a place, the inner ones among the pooled ===== -/
/-- f, but v at every address of l -/
def vr_up {α : Type} (f : Nat → α) (l : List Nat) (v : α) : Nat → α := fun a => if a ∈ l then v else f a
theorem vr_up_in {α : Type} {f : Nat → α} {l : List Nat} {v : α} {a : Nat} (h : a ∈ l) : vr_up f l v a = v := if_pos h
theorem vr_up_ne {α : Type} {f : Nat → α} {l : List Nat} {v : α} {a : Nat} (h : a ∉ l) : vr_up f l v a = f a := if_neg h
theorem vr_rows {L l : List Nat} {f : Nat → va_E} {e : va_E} (h : ∀ a, a ∈ l → a ∉ L) : va_pl L f ++ l.map (fun a => (a, e)) = va_pl (L ++ l) (vr_up f l e) := by
  unfold va_pl
  rw [List.map_append]
  congr 1
  · apply List.map_congr_left
    intro a ha
    rw [vr_up_ne (fun q => h a q ha)]
  · apply List.map_congr_left
    intro a ha
    rw [vr_up_in ha]
theorem vr_lay {X rows : va_W} {x : Nat × va_E} {pl : va_W} {D : va_G} {cl : List vw_C} {H : Heap} (hP : va_P D cl (((X ++ pl) ++ [x]) ++ rows) H) : va_P D cl ((X ++ [x]) ++ (pl ++ rows)) H := by
  rw [List.append_assoc (X ++ pl)] at hP
  have h := va_P.swap hP
  rw [← List.append_assoc X] at h
  have h2 := va_P.swap h
  rw [List.append_assoc (X ++ [x])] at h2
  exact h2
theorem vr_layD {X rows : va_W} {x : Nat × va_E} {pl : va_W} {A : Nat → Prop} (hD : va_D A (((X ++ pl) ++ [x]) ++ rows)) : va_D A ((X ++ [x]) ++ (pl ++ rows)) := by
  rw [List.append_assoc (X ++ pl)] at hD
  have h := va_D.swap hD
  rw [← List.append_assoc X] at h
  have h2 := va_D.swap h
  rw [List.append_assoc (X ++ [x])] at h2
  exact h2
theorem vr_outer (c : ClassId) (N h0 : Nat) : ∀ i : Nat, Jvm.Free.Multi.outerC c N h0 i = arrV c N (fun j => va_rf (if j < i then some (h0 + 1 + j) else none))
  | 0 => by
    show ({ cls := c, slots := Array.replicate N .null, vm := .none } : Cell) = _
    rw [arrV_new]
    refine congrArg (arrV c N) (funext fun j => ?_)
    simp [va_rf]
  | i + 1 => by
    show (Jvm.Free.Multi.outerC c N h0 i).setSlot i (.ref (h0 + 1 + i)) = _
    rw [vr_outer c N h0 i, arrV_store]
    refine congrArg (arrV c N) (funext fun j => ?_)
    by_cases e : j = i
    · subst e
      simp [updV, va_rf]
    · by_cases h : j < i
      · simp [updV, e, h, Nat.lt_succ_of_lt h]
      · simp [updV, e, h, show ¬ j < i + 1 by omega]
/-- the class of arrays over int[] is there -/
def va_AOA (ty : FieldType) (U : State) : Prop := (Cond.arrayOver (.array ty)).before #[] U = true
theorem va_AOA.of {ty : FieldType} {A : Array Value} {U : State} (h : (Cond.arrayOver (.array ty)).before A U = true) : va_AOA ty U := h
theorem va_AOA.use {ty : FieldType} {A : Array Value} {U : State} (h : va_AOA ty U) : (Cond.arrayOver (.array ty)).before A U = true := h
section VGM
variable {p : Program} {l : Launch} {e : Env} {R : Room} {s : State} {m : MethodId} {args : Array Value} {below : List Frame} {meth : Method} {c : Code} {H : Heap} {locs : List Loc} {cells slots : Nat} {Q : State → Prop}
variable {cc : ByteArray} {pc : Nat} {ls : Array Slot} {rest : List Value} {D : va_G} {cl : List vw_C} {A : Nat → Prop} {a : Nat} {tys : List (ClassId × FieldType)} {ws : va_W} {H0 : Heap}
theorem va_mna {X : va_W} {L : List Nat} {f : Nat → va_E} {cc : ByteArray} (hexec : p.tables.exec = Jvm.exec) (hb : c.code = cc) {own : String} {index : Nat} {ty : FieldType} {cy : ClassId} (hown : s.vm.findClass own = some m.cls) (hclink : (Cond.classLink own index ("[" ++ (FieldType.array ty).toString)).before args s = true) (hover : va_AOA ty s) (harr : (Cond.arrayClass ty).before args s = true) (hcy : s.vm.findClass (FieldType.array ty).toString = some cy)
    (hK : va_K D cl tys s) (hP : va_P D cl (X ++ va_pl L f) H) (hD : va_D A (X ++ va_pl L f)) (hS : va_S A H0 H locs) (hA : ∀ q, H0.size ≤ q → A q) {n k : Int32} {N' K' : Nat} {z : vp_A} (hn : ¬ n < 0) (hk : ¬ k < 0) (hN : n.toNatClampNeg = N') (hM : k.toNatClampNeg = K')
    (hb1 : N' * 4 ≤ 536870912) (hb2 : K' * componentBytes ty ≤ 536870912) (hb3 : K' ≤ 536870912) (hdf : fits ty (defaultValue ty) = true) (hdd : (defaultValue ty).isDefault = true) (hcells : cells + (1 + N') ≤ R.cells) (hslots : slots + (N' + N' * K') ≤ R.slots) (hz : ∀ c : ClassId, Jvm.Free.Multi.innerC c K' (defaultValue ty) = vp_cell c z) (hdg : decode cc pc = .ok (.multianewarray index 2, 4))
    (kk : ∀ (q : Nat) (r : Nat → Nat) (cA : ClassId) (H1 : Heap), (∀ i j : Nat, i < N' → j < N' → r i = r j → i = j) → (∀ i : Nat, i < N' → r i ∉ L) → va_K D cl (tys ++ [(cA, .array ty)]) s →
      va_P D cl ((X ++ [(q, .inl (cA, N', .inr (.inr (.inr (.inr (fun i => if i < N' then some (r i) else none))))))]) ++ va_pl (L ++ (List.range N').map r) (vr_up f ((List.range N').map r) (.inl (cy, z)))) H1 → va_D A ((X ++ [(q, .inl (cA, N', .inr (.inr (.inr (.inr (fun i => if i < N' then some (r i) else none))))))]) ++ va_pl (L ++ (List.range N').map r) (vr_up f ((List.range N').map r) (.inl (cy, z)))) → va_S A H0 H1 locs →
      W p l e R s m args below meth c H1 locs (cells + 1 + N') (slots + N' + N' * K') Q (F0 m (pc + 4) ls (.ref q :: rest))) : W p l e R s m args below meth c H locs cells slots Q (F0 m pc ls (.int k :: .int n :: rest)) := by
  subst hN
  subst hM
  intro T hT Xs
  obtain ⟨vm₁, cA, comp, -, fA, fC, hO, -, X', step⟩ := Xs.multianewarray2F hexec hown hclink (va_AOA.use hover) harr (g := F0 m pc ls (.int k :: .int n :: rest)) rfl (by rw [hb]; exact hdg) rfl hn hk hb1 hb2 hb3 hdf hdd hcells hslots
  have ec : some cy = some comp := hcy.symm.trans fC
  cases ec
  generalize hF : Jvm.Free.Multi.fill (T.setVm vm₁) cA cy n.toNatClampNeg k.toNatClampNeg (defaultValue ty) n.toNatClampNeg = F at X' step
  have hTh : (T.setVm vm₁).heap = H := hT
  obtain ⟨f1, f2, -, -⟩ := Jvm.Free.Multi.fill_facts (T.setVm vm₁) cA cy n.toNatClampNeg k.toNatClampNeg (defaultValue ty) n.toNatClampNeg
  rw [hF, hTh] at f1 f2
  have hold : ∀ x : Nat, x < H.size → F.heap[x]? = H[x]? := fun x hx => by
    have := Jvm.Free.Multi.fill_old (T.setVm vm₁) cA cy n.toNatClampNeg k.toNatClampNeg (defaultValue ty) (a := x) (by rw [hTh]; exact hx) n.toNatClampNeg
    rw [hF, hTh] at this
    exact this
  have hrow : ∀ j : Nat, j < n.toNatClampNeg → F.heap[H.size + 1 + j]? = some (vp_cell cy z) := fun j hj => by
    have := Jvm.Free.Multi.fill_inner (T.setVm vm₁) cA cy n.toNatClampNeg k.toNatClampNeg (defaultValue ty) n.toNatClampNeg j hj
    rw [hF, hTh, hz] at this
    exact this
  have hout : Jvm.Free.Multi.outerC cA n.toNatClampNeg H.size n.toNatClampNeg = vp_cell cA (n.toNatClampNeg, .inr (.inr (.inr (.inr (fun i => if i < n.toNatClampNeg then some (H.size + 1 + i) else none))))) := by
    rw [vp_cell_q]
    exact vr_outer cA n.toNatClampNeg H.size n.toNatClampNeg
  rw [hout] at f2
  have hlt : ∀ a, a ∈ L → a < H.size := fun a ha => by
    obtain ⟨k9, hk9⟩ := va_pl_get (X := X) (f := f) ha
    exact (hP k9 _ hk9).lt
  have hnl : ∀ i : Nat, i < n.toNatClampNeg → H.size + 1 + i ∉ L := fun i _ h => by
    have := hlt _ h
    omega
  have hnm : ∀ a, a ∈ (List.range n.toNatClampNeg).map (fun i => H.size + 1 + i) → a ∉ L := fun a ha h => by
    obtain ⟨i, -, rfl⟩ := List.mem_map.mp ha
    have := hlt _ h
    omega
  have hP0 : va_P D cl (X ++ va_pl L f) F.heap := hP.kept (fun k9 x hx => hold x.1 ((hP k9 x hx).lt))
  have hP1 : va_P D cl ((X ++ va_pl L f) ++ [(H.size, .inl (cA, n.toNatClampNeg, .inr (.inr (.inr (.inr (fun i => if i < n.toNatClampNeg then some (H.size + 1 + i) else none))))))]) F.heap := hP0.app (fun k9 x hx => by
    have h0 : k9 < 1 := (List.getElem?_eq_some_iff.mp hx).1
    rw [show k9 = 0 by omega] at hx
    cases hx
    exact f2)
  have hP2 : va_P D cl (((X ++ va_pl L f) ++ [(H.size, .inl (cA, n.toNatClampNeg, .inr (.inr (.inr (.inr (fun i => if i < n.toNatClampNeg then some (H.size + 1 + i) else none))))))]) ++ ((List.range n.toNatClampNeg).map (fun i => H.size + 1 + i)).map (fun a => (a, .inl (cy, z)))) F.heap := hP1.app (fun k9 x hx => by
    obtain ⟨a, ha, rfl⟩ := List.mem_map.mp (List.mem_of_getElem? hx)
    obtain ⟨i, hi, rfl⟩ := List.mem_map.mp ha
    exact hrow i (List.mem_range.mp hi))
  have hD2 : va_D A (((X ++ va_pl L f) ++ [(H.size, .inl (cA, n.toNatClampNeg, .inr (.inr (.inr (.inr (fun i => if i < n.toNatClampNeg then some (H.size + 1 + i) else none))))))]) ++ ((List.range n.toNatClampNeg).map (fun i => H.size + 1 + i)).map (fun a => (a, .inl (cy, z)))) := by
    have hD1 := hD.push (e := .inl (cA, n.toNatClampNeg, .inr (.inr (.inr (.inr (fun i => if i < n.toNatClampNeg then some (H.size + 1 + i) else none)))))) hP rfl (hA _ hS.1)
    generalize hW1 : (X ++ va_pl L f) ++ [(H.size, .inl (cA, n.toNatClampNeg, .inr (.inr (.inr (.inr (fun i => if i < n.toNatClampNeg then some (H.size + 1 + i) else none))))))] = W1 at hD1 hP1 ⊢
    have hle : ∀ (k9 : Nat) (x : Nat × va_E), W1[k9]? = some x → x.1 ≤ H.size := fun k9 x hx => by
      rw [← hW1] at hx
      by_cases hl : k9 < (X ++ va_pl L f).length
      · rw [List.getElem?_append_left hl] at hx
        exact Nat.le_of_lt ((hP k9 x hx).lt)
      · rw [List.getElem?_append_right (by omega)] at hx
        have h0 : k9 - (X ++ va_pl L f).length < 1 := (List.getElem?_eq_some_iff.mp hx).1
        rw [show k9 - (X ++ va_pl L f).length = 0 by omega] at hx
        cases hx
        exact Nat.le_refl _
    have hr : ∀ (k9 : Nat) (x : Nat × va_E), (((List.range n.toNatClampNeg).map (fun i => H.size + 1 + i)).map (fun a => ((a, .inl (cy, z)) : Nat × va_E)))[k9]? = some x → x.1 = H.size + 1 + k9 := fun k9 x hx => by
      rw [List.getElem?_map, List.getElem?_map] at hx
      by_cases h9 : k9 < n.toNatClampNeg
      · rw [List.getElem?_range h9] at hx
        cases hx
        rfl
      · have hn0 : (List.range n.toNatClampNeg)[k9]? = none := List.getElem?_eq_none (by rw [List.length_range]; omega)
        rw [hn0] at hx
        cases hx
    refine ⟨fun i j x y hi hj hxy => ?_, fun k9 x hx => ?_⟩
    · by_cases h1 : i < W1.length <;> by_cases h2 : j < W1.length
      · rw [List.getElem?_append_left h1] at hi
        rw [List.getElem?_append_left h2] at hj
        exact hD1.1 i j x y hi hj hxy
      · rw [List.getElem?_append_left h1] at hi
        rw [List.getElem?_append_right (by omega)] at hj
        have := hle _ _ hi
        have := hr _ _ hj
        omega
      · rw [List.getElem?_append_right (by omega)] at hi
        rw [List.getElem?_append_left h2] at hj
        have := hle _ _ hj
        have := hr _ _ hi
        omega
      · rw [List.getElem?_append_right (by omega)] at hi hj
        have := hr _ _ hi
        have := hr _ _ hj
        omega
    · by_cases h1 : k9 < W1.length
      · rw [List.getElem?_append_left h1] at hx
        exact hD1.2 k9 x hx
      · rw [List.getElem?_append_right (by omega)] at hx
        have := hr _ _ hx
        exact hA _ (by have := hS.1; omega)
  have hAr : ArrOfT s cA (.array ty) := fun N9 z9 => by
    obtain ⟨-, k9, hk9, cm9, hkk9⟩ := (hO 0 0 0).1
    exact ⟨(fun q hq => by cases hq), k9, hk9, cm9, hkk9⟩
  have hK2 : va_K D cl (tys ++ [(cA, .array ty)]) s := ⟨hK.1, fun k9 x hx => by
    by_cases hl : k9 < tys.length
    · rw [List.getElem?_append_left hl] at hx
      exact hK.2 k9 x hx
    · rw [List.getElem?_append_right (by omega)] at hx
      have h0 : k9 - tys.length < 1 := (List.getElem?_eq_some_iff.mp hx).1
      rw [show k9 - tys.length = 0 by omega] at hx
      cases hx
      exact ⟨hAr, fA⟩⟩
  obtain ⟨t, a1, b1⟩ := kk H.size (fun i => H.size + 1 + i) cA F.heap (fun i j _ _ h => by have h9 : H.size + 1 + i = H.size + 1 + j := h; omega) hnl hK2 (by rw [← vr_rows hnm]; exact vr_lay hP2) (by rw [← vr_rows hnm]; exact vr_layD hD2) ⟨by rw [f1]; have := hS.1; omega, fun x h1 h2 => (hold x (Nat.lt_of_lt_of_le h1 hS.1)).trans (hS.2.1 x h1 h2), hS.2.2⟩ F rfl X'
  refine ⟨t, step t ?_, b1⟩
  have e : T.heap.size = H.size := by rw [hT]
  rw [e]
  exact a1
end VGM
/-! ===== END ===== -/

/-! ===== BEGIN printed: names, fields, word lists, decode rows ===== -/
def RX0 : String := "FlightBooks"
def TX0 : u_T := fun k => match k with
  | 0 => ("FlightBooks", "chamberCount", "I", true)
  | 1 => ("FlightBooks", "lineCounts", "[I", true)
  | 2 => ("FlightBooks", "held", "[[I", true)
  | 3 => ("FlightBooks", "places", "[[I", true)
  | 4 => ("FlightBooks", "rowCount", "I", false)
  | 5 => ("FlightBooks", "columnCount", "I", false)
  | 6 => ("FlightBooks", "bargesOut", "I", false)
  | 7 => ("FlightBooks", "eighthsOut", "I", false)
  | 8 => ("FlightBooks", "faultCount", "I", false)
  | _ => ("FlightBooks", "latestFault", "I", false)
def tyX0 : Nat → FieldType := fun k => match k with
  | 0 => .int
  | 1 => .array .int
  | 2 => .array (.array .int)
  | 3 => .array (.array .int)
  | 4 => .int
  | 5 => .int
  | 6 => .int
  | 7 => .int
  | 8 => .int
  | _ => .int
abbrev wsX00 : List Cond := u_ws RX0 TX0 10
theorem nmX0 : ∀ a, a < 10 → ∀ b, b < 10 → a ≠ b → (TX0 a).2.1 ≠ (TX0 b).2.1 := by decide +kernel
theorem tyX0_ok : ∀ k, k < 10 → parseFieldDescriptor (TX0 k).2.2.1 = some (tyX0 k) := by decide +kernel
abbrev cX0_init : ByteArray := prog_1_method_1_code
def yX0_init : MethodName := ⟨RX0, "<init>", "(I)V"⟩
abbrev cX0_keep : ByteArray := prog_1_method_2_code
def yX0_keep : MethodName := ⟨RX0, "keep", "(II)I"⟩
abbrev cX0_lose : ByteArray := prog_1_method_3_code
def yX0_lose : MethodName := ⟨RX0, "lose", "(I)I"⟩
abbrev cX0_lines : ByteArray := prog_1_method_4_code
def yX0_lines : MethodName := ⟨RX0, "lines", "(I)I"⟩
abbrev cX0_read : ByteArray := prog_1_method_5_code
def yX0_read : MethodName := ⟨RX0, "read", "(II)I"⟩
abbrev cX0_write : ByteArray := prog_1_method_6_code
def yX0_write : MethodName := ⟨RX0, "write", "(III)I"⟩
abbrev cX0_change : ByteArray := prog_1_method_7_code
def yX0_change : MethodName := ⟨RX0, "change", "(IIII)I"⟩
abbrev cX0_tally : ByteArray := prog_1_method_8_code
def yX0_tally : MethodName := ⟨RX0, "tally", "(I)I"⟩
abbrev cX0_copy : ByteArray := prog_1_method_9_code
def yX0_copy : MethodName := ⟨RX0, "copy", "(II)I"⟩
abbrev cX0_sluice : ByteArray := prog_1_method_10_code
def yX0_sluice : MethodName := ⟨RX0, "sluice", "(II)I"⟩
abbrev cX0_open : ByteArray := prog_1_method_11_code
def yX0_open : MethodName := ⟨RX0, "open", "(I)I"⟩
abbrev cX0_shut : ByteArray := prog_1_method_12_code
def yX0_shut : MethodName := ⟨RX0, "shut", "(I)I"⟩
abbrev cX0_enter : ByteArray := prog_1_method_13_code
def yX0_enter : MethodName := ⟨RX0, "enter", "(II)I"⟩
abbrev cX0_pass : ByteArray := prog_1_method_14_code
def yX0_pass : MethodName := ⟨RX0, "pass", "(I)I"⟩
abbrev cX0_survey : ByteArray := prog_1_method_15_code
def yX0_survey : MethodName := ⟨RX0, "survey", "(II)I"⟩
abbrev cX0_note : ByteArray := prog_1_method_16_code
def yX0_note : MethodName := ⟨RX0, "note", "(IIII)I"⟩
abbrev cX0_chart : ByteArray := prog_1_method_17_code
def yX0_chart : MethodName := ⟨RX0, "chart", "(II)I"⟩
abbrev cX0_columns : ByteArray := prog_1_method_18_code
def yX0_columns : MethodName := ⟨RX0, "columns", "(I)I"⟩
abbrev cX0_look : ByteArray := prog_1_method_19_code
def yX0_look : MethodName := ⟨RX0, "look", "(I)I"⟩
abbrev cX0_isBook : ByteArray := prog_1_method_20_code
def yX0_isBook : MethodName := ⟨RX0, "isBook", "(I)Z"⟩
abbrev cX0_isChamber : ByteArray := prog_1_method_21_code
def yX0_isChamber : MethodName := ⟨RX0, "isChamber", "(I)Z"⟩
abbrev cX0_isLast : ByteArray := prog_1_method_22_code
def yX0_isLast : MethodName := ⟨RX0, "isLast", "(I)Z"⟩
abbrev cX0_isToldLoad : ByteArray := prog_1_method_23_code
def yX0_isToldLoad : MethodName := ⟨RX0, "isToldLoad", "(I)Z"⟩
abbrev cX0_endsAtBook : ByteArray := prog_1_method_24_code
def yX0_endsAtBook : MethodName := ⟨RX0, "endsAtBook", "(I)Z"⟩
abbrev cX0_endsAtLine : ByteArray := prog_1_method_25_code
def yX0_endsAtLine : MethodName := ⟨RX0, "endsAtLine", "(II)Z"⟩
abbrev cX0_endsAtRow : ByteArray := prog_1_method_26_code
def yX0_endsAtRow : MethodName := ⟨RX0, "endsAtRow", "(I)Z"⟩
abbrev cX0_endsAtPlace : ByteArray := prog_1_method_27_code
def yX0_endsAtPlace : MethodName := ⟨RX0, "endsAtPlace", "(II)Z"⟩
abbrev cX0_endsAtArrival : ByteArray := prog_1_method_28_code
def yX0_endsAtArrival : MethodName := ⟨RX0, "endsAtArrival", "(III)Z"⟩
abbrev cX0_ended : ByteArray := prog_1_method_29_code
def yX0_ended : MethodName := ⟨RX0, "ended", "(I)Z"⟩
abbrev cX0_put : ByteArray := prog_1_method_30_code
def yX0_put : MethodName := ⟨RX0, "put", "(III)V"⟩
abbrev cX0_cut : ByteArray := prog_1_method_31_code
def yX0_cut : MethodName := ⟨RX0, "cut", "(II)I"⟩
abbrev cX0_nearest : ByteArray := prog_1_method_32_code
def yX0_nearest : MethodName := ⟨RX0, "nearest", "(III)I"⟩
abbrev cX0_told : ByteArray := prog_1_method_33_code
def yX0_told : MethodName := ⟨RX0, "told", "(II)I"⟩
abbrev cX0_changed : ByteArray := prog_1_method_34_code
def yX0_changed : MethodName := ⟨RX0, "changed", "(IIII)I"⟩
abbrev cX0_changedGate : ByteArray := prog_1_method_35_code
def yX0_changedGate : MethodName := ⟨RX0, "changedGate", "(III)I"⟩
abbrev cX0_goOut : ByteArray := prog_1_method_36_code
def yX0_goOut : MethodName := ⟨RX0, "goOut", "(I)I"⟩
abbrev cX0_goOn : ByteArray := prog_1_method_37_code
def yX0_goOn : MethodName := ⟨RX0, "goOn", "(I)I"⟩
abbrev cX0_leave : ByteArray := prog_1_method_38_code
def yX0_leave : MethodName := ⟨RX0, "leave", "(I)I"⟩
abbrev cX0_booksKept : ByteArray := prog_1_method_39_code
def yX0_booksKept : MethodName := ⟨RX0, "booksKept", "()I"⟩
def RX1 : String := "FlightBooksModel"
def TX1 : u_T := fun k => match k with
  | 0 => ("FlightBooksModel", "chambers", "I", true)
  | 1 => ("FlightBooksModel", "many", "[I", true)
  | 2 => ("FlightBooksModel", "cells", "[I", true)
  | 3 => ("FlightBooksModel", "places", "[I", true)
  | 4 => ("FlightBooksModel", "charted", "Z", false)
  | 5 => ("FlightBooksModel", "rows", "I", false)
  | 6 => ("FlightBooksModel", "across", "I", false)
  | 7 => ("FlightBooksModel", "out", "I", false)
  | 8 => ("FlightBooksModel", "outLoads", "I", false)
  | 9 => ("FlightBooksModel", "faults", "I", false)
  | 10 => ("FlightBooksModel", "latest", "I", false)
  | _ => ("FlightBooksModel", "fault", "I", false)
def tyX1 : Nat → FieldType := fun k => match k with
  | 0 => .int
  | 1 => .array .int
  | 2 => .array .int
  | 3 => .array .int
  | 4 => .boolean
  | 5 => .int
  | 6 => .int
  | 7 => .int
  | 8 => .int
  | 9 => .int
  | 10 => .int
  | _ => .int
abbrev wsX10 : List Cond := u_ws RX1 TX1 12
theorem nmX1 : ∀ a, a < 12 → ∀ b, b < 12 → a ≠ b → (TX1 a).2.1 ≠ (TX1 b).2.1 := by decide +kernel
theorem tyX1_ok : ∀ k, k < 12 → parseFieldDescriptor (TX1 k).2.2.1 = some (tyX1 k) := by decide +kernel
abbrev cX1_init : ByteArray := prog_3_method_1_code
def yX1_init : MethodName := ⟨RX1, "<init>", "(I)V"⟩
abbrev cX1_isBook : ByteArray := prog_3_method_2_code
def yX1_isBook : MethodName := ⟨RX1, "isBook", "(I)Z"⟩
abbrev cX1_isChamber : ByteArray := prog_3_method_3_code
def yX1_isChamber : MethodName := ⟨RX1, "isChamber", "(I)Z"⟩
abbrev cX1_has : ByteArray := prog_3_method_4_code
def yX1_has : MethodName := ⟨RX1, "has", "(II)Z"⟩
abbrev cX1_cell : ByteArray := prog_3_method_5_code
def yX1_cell : MethodName := ⟨RX1, "cell", "(II)I"⟩
abbrev cX1_cut : ByteArray := prog_3_method_6_code
def yX1_cut : MethodName := ⟨RX1, "cut", "(II)I"⟩
abbrev cX1_put : ByteArray := prog_3_method_7_code
def yX1_put : MethodName := ⟨RX1, "put", "(III)V"⟩
abbrev cX1_more : ByteArray := prog_3_method_8_code
def yX1_more : MethodName := ⟨RX1, "more", "(III)V"⟩
abbrev cX1_answer : ByteArray := prog_3_method_9_code
def yX1_answer : MethodName := ⟨RX1, "answer", "(I)I"⟩
abbrev cX1_keep : ByteArray := prog_3_method_10_code
def yX1_keep : MethodName := ⟨RX1, "keep", "(II)I"⟩
abbrev cX1_lose : ByteArray := prog_3_method_11_code
def yX1_lose : MethodName := ⟨RX1, "lose", "(I)I"⟩
abbrev cX1_lines : ByteArray := prog_3_method_12_code
def yX1_lines : MethodName := ⟨RX1, "lines", "(I)I"⟩
abbrev cX1_read : ByteArray := prog_3_method_13_code
def yX1_read : MethodName := ⟨RX1, "read", "(II)I"⟩
abbrev cX1_isLoad : ByteArray := prog_3_method_14_code
def yX1_isLoad : MethodName := ⟨RX1, "isLoad", "(I)Z"⟩
abbrev cX1_write : ByteArray := prog_3_method_15_code
def yX1_write : MethodName := ⟨RX1, "write", "(III)I"⟩
abbrev cX1_gate : ByteArray := prog_3_method_16_code
def yX1_gate : MethodName := ⟨RX1, "gate", "(III)I"⟩
abbrev cX1_change : ByteArray := prog_3_method_17_code
def yX1_change : MethodName := ⟨RX1, "change", "(IIII)I"⟩
abbrev cX1_tally : ByteArray := prog_3_method_18_code
def yX1_tally : MethodName := ⟨RX1, "tally", "(I)I"⟩
abbrev cX1_copy : ByteArray := prog_3_method_19_code
def yX1_copy : MethodName := ⟨RX1, "copy", "(II)I"⟩
abbrev cX1_sluice : ByteArray := prog_3_method_20_code
def yX1_sluice : MethodName := ⟨RX1, "sluice", "(II)I"⟩
abbrev cX1_open : ByteArray := prog_3_method_21_code
def yX1_open : MethodName := ⟨RX1, "open", "(I)I"⟩
abbrev cX1_shut : ByteArray := prog_3_method_22_code
def yX1_shut : MethodName := ⟨RX1, "shut", "(I)I"⟩
abbrev cX1_enter : ByteArray := prog_3_method_23_code
def yX1_enter : MethodName := ⟨RX1, "enter", "(II)I"⟩
abbrev cX1_moved : ByteArray := prog_3_method_24_code
def yX1_moved : MethodName := ⟨RX1, "moved", "(II)I"⟩
abbrev cX1_pass : ByteArray := prog_3_method_25_code
def yX1_pass : MethodName := ⟨RX1, "pass", "(I)I"⟩
abbrev cX1_survey : ByteArray := prog_3_method_26_code
def yX1_survey : MethodName := ⟨RX1, "survey", "(II)I"⟩
abbrev cX1_hasRow : ByteArray := prog_3_method_27_code
def yX1_hasRow : MethodName := ⟨RX1, "hasRow", "(I)Z"⟩
abbrev cX1_hasPlace : ByteArray := prog_3_method_28_code
def yX1_hasPlace : MethodName := ⟨RX1, "hasPlace", "(II)Z"⟩
abbrev cX1_note : ByteArray := prog_3_method_29_code
def yX1_note : MethodName := ⟨RX1, "note", "(IIII)I"⟩
abbrev cX1_chart : ByteArray := prog_3_method_30_code
def yX1_chart : MethodName := ⟨RX1, "chart", "(II)I"⟩
abbrev cX1_columns : ByteArray := prog_3_method_31_code
def yX1_columns : MethodName := ⟨RX1, "columns", "(I)I"⟩
abbrev cX1_look : ByteArray := prog_3_method_32_code
def yX1_look : MethodName := ⟨RX1, "look", "(I)I"⟩
def RJ9 : String := "java/lang/Math"
def TJ9 : u_T := fun k => match k with
  | _ => ("", "", "", false)
def tyJ9 : Nat → FieldType := fun k => match k with
  | _ => .int
abbrev wsJ90 : List Cond := u_ws RJ9 TJ9 0
theorem nmJ9 : ∀ a, a < 0 → ∀ b, b < 0 → a ≠ b → (TJ9 a).2.1 ≠ (TJ9 b).2.1 := by decide +kernel
theorem tyJ9_ok : ∀ k, k < 0 → parseFieldDescriptor (TJ9 k).2.2.1 = some (tyJ9 k) := by decide +kernel
abbrev cJ9_max_7cf53 : ByteArray := prog_4_method_65_code
def yJ9_max_7cf53 : MethodName := ⟨RJ9, "max", "(II)I"⟩
abbrev cJ9_min_7cf53 : ByteArray := prog_4_method_69_code
def yJ9_min_7cf53 : MethodName := ⟨RJ9, "min", "(II)I"⟩
def RJ7 : String := "java/util/Arrays"
def TJ7 : u_T := fun k => match k with
  | _ => ("", "", "", false)
def tyJ7 : Nat → FieldType := fun k => match k with
  | _ => .int
abbrev wsJ70 : List Cond := u_ws RJ7 TJ7 0
theorem nmJ7 : ∀ a, a < 0 → ∀ b, b < 0 → a ≠ b → (TJ7 a).2.1 ≠ (TJ7 b).2.1 := by decide +kernel
theorem tyJ7_ok : ∀ k, k < 0 → parseFieldDescriptor (TJ7 k).2.2.1 = some (tyJ7 k) := by decide +kernel
abbrev cJ7_fill_53178 : ByteArray := prog_5_method_103_code
def yJ7_fill_53178 : MethodName := ⟨RJ7, "fill", "([II)V"⟩
def RL : String := "FlightBooksLaw"
abbrev cL_cell : ByteArray := method_2_code
def yL_cell : MethodName := ⟨RL, "cell", "([II)I"⟩
abbrev cL_law : ByteArray := code
def yL_law : MethodName := ⟨RL, "law", "([I)Z"⟩
def wsX0_nearest : List Cond := .code yX0_nearest cX0_nearest 3 (some .int) :: ([.methodLink RX0 121 Lib.Math.min.name, .static Lib.Math.min.name, .initialized "java/lang/Math", .code Lib.Math.min.name Lib.Math.min.code 2 (some .int), .methodLink RX0 126 Lib.Math.max.name, .static Lib.Math.max.name, .code Lib.Math.max.name Lib.Math.max.code 2 (some .int)])
def wsJ7_fill_53178 : List Cond := .code yJ7_fill_53178 cJ7_fill_53178 4 none :: ([])
def wsX0_init_r1 : List Cond := [Cond.methodLink RX0 1 objectInit, Cond.instanceMethod objectInit, Cond.code objectInit ⟨#[0xb1]⟩ 1 none, Cond.arrayClass .int, Cond.fieldLink RX0 9 "FlightBooks" "lineCounts" "[I", Cond.classLink RX0 13 "[[I", Cond.fieldLink RX0 15 "FlightBooks" "held" "[[I", Cond.fieldLink RX0 18 "FlightBooks" "places" "[[I", Cond.fieldLink RX0 21 "FlightBooks" "rowCount" "I", Cond.fieldLink RX0 25 "FlightBooks" "columnCount" "I", Cond.fieldLink RX0 28 "FlightBooks" "bargesOut" "I", Cond.fieldLink RX0 31 "FlightBooks" "eighthsOut" "I", Cond.fieldLink RX0 34 "FlightBooks" "faultCount" "I", Cond.fieldLink RX0 37 "FlightBooks" "latestFault" "I", Cond.fieldLink RX0 44 "FlightBooks" "chamberCount" "I", Cond.methodLink RX0 40 yX0_nearest, Cond.static yX0_nearest, Cond.initialized RX0, Cond.code yX0_nearest cX0_nearest 3 (some .int), Cond.methodLink RX0 121 Lib.Math.min.name, Cond.static Lib.Math.min.name, Cond.initialized "java/lang/Math", Cond.code Lib.Math.min.name Lib.Math.min.code 2 (some .int), Cond.methodLink RX0 126 Lib.Math.max.name]
def wsX0_init_r2 : List Cond := [Cond.static Lib.Math.max.name, Cond.code Lib.Math.max.name Lib.Math.max.code 2 (some .int), Cond.methodLink RX0 47 yJ7_fill_53178, Cond.static yJ7_fill_53178, Cond.initialized RJ7, Cond.code yJ7_fill_53178 cJ7_fill_53178 4 none]
def wsX0_init : List Cond := .code yX0_init cX0_init 2 none :: ((wsX0_init_r1 ++ wsX0_init_r2) ++ wsX00)
def wsX0_isBook : List Cond := .code yX0_isBook cX0_isBook 1 (some .boolean) :: ([])
def wsX0_keep : List Cond := .code yX0_keep cX0_keep 3 (some .int) :: ([.constant RX0 57 (-300000), .fieldLink RX0 15 "FlightBooks" "held" "[[I", .fieldLink RX0 9 "FlightBooks" "lineCounts" "[I", .methodLink RX0 53 yX0_isBook, .static yX0_isBook, .initialized RX0, .code yX0_isBook cX0_isBook 1 (some .boolean), .methodLink RX0 47 yJ7_fill_53178, .static yJ7_fill_53178, .initialized RJ7, .code yJ7_fill_53178 cJ7_fill_53178 4 none] ++ wsX00)
def wsX0_lose : List Cond := .code yX0_lose cX0_lose 2 (some .int) :: ([.constant RX0 57 (-300000), .fieldLink RX0 9 "FlightBooks" "lineCounts" "[I", .methodLink RX0 53 yX0_isBook, .static yX0_isBook, .initialized RX0, .code yX0_isBook cX0_isBook 1 (some .boolean)] ++ wsX00)
def wsX0_ended : List Cond := .code yX0_ended cX0_ended 2 (some .boolean) :: ([.fieldLink RX0 34 "FlightBooks" "faultCount" "I", .fieldLink RX0 37 "FlightBooks" "latestFault" "I"] ++ wsX00)
def wsX0_endsAtBook : List Cond := .code yX0_endsAtBook cX0_endsAtBook 2 (some .boolean) :: ([.fieldLink RX0 9 "FlightBooks" "lineCounts" "[I", .constant RX0 110 (-100000), .methodLink RX0 111 yX0_ended, .instanceMethod yX0_ended, .selects RX0 yX0_ended yX0_ended, .initialized RX0, .code yX0_ended cX0_ended 2 (some .boolean), .fieldLink RX0 34 "FlightBooks" "faultCount" "I", .fieldLink RX0 37 "FlightBooks" "latestFault" "I"] ++ wsX00)
def wsX0_lines : List Cond := .code yX0_lines cX0_lines 2 (some .int) :: ([.constant RX0 57 (-300000), .fieldLink RX0 37 "FlightBooks" "latestFault" "I", .fieldLink RX0 9 "FlightBooks" "lineCounts" "[I", .methodLink RX0 53 yX0_isBook, .static yX0_isBook, .initialized RX0, .code yX0_isBook cX0_isBook 1 (some .boolean), .methodLink RX0 58 yX0_endsAtBook, .instanceMethod yX0_endsAtBook, .selects RX0 yX0_endsAtBook yX0_endsAtBook, .code yX0_endsAtBook cX0_endsAtBook 2 (some .boolean), .constant RX0 110 (-100000), .methodLink RX0 111 yX0_ended, .instanceMethod yX0_ended, .selects RX0 yX0_ended yX0_ended, .code yX0_ended cX0_ended 2 (some .boolean), .fieldLink RX0 34 "FlightBooks" "faultCount" "I"] ++ wsX00)
def wsX0_endsAtLine : List Cond := .code yX0_endsAtLine cX0_endsAtLine 3 (some .boolean) :: ([.fieldLink RX0 9 "FlightBooks" "lineCounts" "[I", .constant RX0 114 (-200000), .methodLink RX0 58 yX0_endsAtBook, .instanceMethod yX0_endsAtBook, .selects RX0 yX0_endsAtBook yX0_endsAtBook, .initialized RX0, .code yX0_endsAtBook cX0_endsAtBook 2 (some .boolean), .constant RX0 110 (-100000), .methodLink RX0 111 yX0_ended, .instanceMethod yX0_ended, .selects RX0 yX0_ended yX0_ended, .code yX0_ended cX0_ended 2 (some .boolean), .fieldLink RX0 34 "FlightBooks" "faultCount" "I", .fieldLink RX0 37 "FlightBooks" "latestFault" "I"] ++ wsX00)
def wsX0_read : List Cond := .code yX0_read cX0_read 3 (some .int) :: ([.constant RX0 57 (-300000), .fieldLink RX0 37 "FlightBooks" "latestFault" "I", .fieldLink RX0 15 "FlightBooks" "held" "[[I", .methodLink RX0 53 yX0_isBook, .static yX0_isBook, .initialized RX0, .code yX0_isBook cX0_isBook 1 (some .boolean), .methodLink RX0 61 yX0_endsAtLine, .instanceMethod yX0_endsAtLine, .selects RX0 yX0_endsAtLine yX0_endsAtLine, .code yX0_endsAtLine cX0_endsAtLine 3 (some .boolean), .fieldLink RX0 9 "FlightBooks" "lineCounts" "[I", .constant RX0 114 (-200000), .methodLink RX0 58 yX0_endsAtBook, .instanceMethod yX0_endsAtBook, .selects RX0 yX0_endsAtBook yX0_endsAtBook, .code yX0_endsAtBook cX0_endsAtBook 2 (some .boolean), .constant RX0 110 (-100000), .methodLink RX0 111 yX0_ended, .instanceMethod yX0_ended, .selects RX0 yX0_ended yX0_ended, .code yX0_ended cX0_ended 2 (some .boolean), .fieldLink RX0 34 "FlightBooks" "faultCount" "I"] ++ wsX00)
def wsX0_isToldLoad : List Cond := .code yX0_isToldLoad cX0_isToldLoad 1 (some .boolean) :: ([])
def wsX0_cut : List Cond := .code yX0_cut cX0_cut 2 (some .int) :: ([.constant RX0 118 (65535), .constant RX0 119 (-2000000), .constant RX0 120 (2000000), .methodLink RX0 40 yX0_nearest, .static yX0_nearest, .initialized RX0, .code yX0_nearest cX0_nearest 3 (some .int), .methodLink RX0 121 Lib.Math.min.name, .static Lib.Math.min.name, .initialized "java/lang/Math", .code Lib.Math.min.name Lib.Math.min.code 2 (some .int), .methodLink RX0 126 Lib.Math.max.name, .static Lib.Math.max.name, .code Lib.Math.max.name Lib.Math.max.code 2 (some .int)])
def wsX0_put : List Cond := .code yX0_put cX0_put 4 none :: ([.fieldLink RX0 15 "FlightBooks" "held" "[[I", .methodLink RX0 86 yX0_cut, .static yX0_cut, .initialized RX0, .code yX0_cut cX0_cut 2 (some .int), .constant RX0 118 (65535), .constant RX0 119 (-2000000), .constant RX0 120 (2000000), .methodLink RX0 40 yX0_nearest, .static yX0_nearest, .code yX0_nearest cX0_nearest 3 (some .int), .methodLink RX0 121 Lib.Math.min.name, .static Lib.Math.min.name, .initialized "java/lang/Math", .code Lib.Math.min.name Lib.Math.min.code 2 (some .int), .methodLink RX0 126 Lib.Math.max.name, .static Lib.Math.max.name, .code Lib.Math.max.name Lib.Math.max.code 2 (some .int)] ++ wsX00)
def wsX0_write_r1 : List Cond := [Cond.constant RX0 57 (-300000), Cond.fieldLink RX0 37 "FlightBooks" "latestFault" "I", Cond.methodLink RX0 53 yX0_isBook, Cond.static yX0_isBook, Cond.initialized RX0, Cond.code yX0_isBook cX0_isBook 1 (some .boolean), Cond.methodLink RX0 65 yX0_isToldLoad, Cond.static yX0_isToldLoad, Cond.code yX0_isToldLoad cX0_isToldLoad 1 (some .boolean), Cond.methodLink RX0 61 yX0_endsAtLine, Cond.instanceMethod yX0_endsAtLine, Cond.selects RX0 yX0_endsAtLine yX0_endsAtLine, Cond.code yX0_endsAtLine cX0_endsAtLine 3 (some .boolean), Cond.fieldLink RX0 9 "FlightBooks" "lineCounts" "[I", Cond.constant RX0 114 (-200000), Cond.methodLink RX0 58 yX0_endsAtBook, Cond.instanceMethod yX0_endsAtBook, Cond.selects RX0 yX0_endsAtBook yX0_endsAtBook, Cond.code yX0_endsAtBook cX0_endsAtBook 2 (some .boolean), Cond.constant RX0 110 (-100000), Cond.methodLink RX0 111 yX0_ended, Cond.instanceMethod yX0_ended, Cond.selects RX0 yX0_ended yX0_ended, Cond.code yX0_ended cX0_ended 2 (some .boolean)]
def wsX0_write_r2 : List Cond := [Cond.fieldLink RX0 34 "FlightBooks" "faultCount" "I", Cond.methodLink RX0 68 yX0_put, Cond.instanceMethod yX0_put, Cond.selects RX0 yX0_put yX0_put, Cond.code yX0_put cX0_put 4 none, Cond.fieldLink RX0 15 "FlightBooks" "held" "[[I", Cond.methodLink RX0 86 yX0_cut, Cond.static yX0_cut, Cond.code yX0_cut cX0_cut 2 (some .int), Cond.constant RX0 118 (65535), Cond.constant RX0 119 (-2000000), Cond.constant RX0 120 (2000000), Cond.methodLink RX0 40 yX0_nearest, Cond.static yX0_nearest, Cond.code yX0_nearest cX0_nearest 3 (some .int), Cond.methodLink RX0 121 Lib.Math.min.name, Cond.static Lib.Math.min.name, Cond.initialized "java/lang/Math", Cond.code Lib.Math.min.name Lib.Math.min.code 2 (some .int), Cond.methodLink RX0 126 Lib.Math.max.name, Cond.static Lib.Math.max.name, Cond.code Lib.Math.max.name Lib.Math.max.code 2 (some .int)]
def wsX0_write : List Cond := .code yX0_write cX0_write 4 (some .int) :: ((wsX0_write_r1 ++ wsX0_write_r2) ++ wsX00)
def wsX0_changedGate : List Cond := .code yX0_changedGate cX0_changedGate 3 (some .int) :: ([])
def wsX0_changed : List Cond := .code yX0_changed cX0_changed 5 (some .int) :: ([.methodLink RX0 129 yX0_changedGate, .static yX0_changedGate, .initialized RX0, .code yX0_changedGate cX0_changedGate 3 (some .int)])
def wsX0_change_r1 : List Cond := [Cond.constant RX0 57 (-300000), Cond.fieldLink RX0 37 "FlightBooks" "latestFault" "I", Cond.fieldLink RX0 15 "FlightBooks" "held" "[[I", Cond.methodLink RX0 53 yX0_isBook, Cond.static yX0_isBook, Cond.initialized RX0, Cond.code yX0_isBook cX0_isBook 1 (some .boolean), Cond.methodLink RX0 65 yX0_isToldLoad, Cond.static yX0_isToldLoad, Cond.code yX0_isToldLoad cX0_isToldLoad 1 (some .boolean), Cond.methodLink RX0 61 yX0_endsAtLine, Cond.instanceMethod yX0_endsAtLine, Cond.selects RX0 yX0_endsAtLine yX0_endsAtLine, Cond.code yX0_endsAtLine cX0_endsAtLine 3 (some .boolean), Cond.fieldLink RX0 9 "FlightBooks" "lineCounts" "[I", Cond.constant RX0 114 (-200000), Cond.methodLink RX0 58 yX0_endsAtBook, Cond.instanceMethod yX0_endsAtBook, Cond.selects RX0 yX0_endsAtBook yX0_endsAtBook, Cond.code yX0_endsAtBook cX0_endsAtBook 2 (some .boolean), Cond.constant RX0 110 (-100000), Cond.methodLink RX0 111 yX0_ended, Cond.instanceMethod yX0_ended, Cond.selects RX0 yX0_ended yX0_ended]
def wsX0_change_r2 : List Cond := [Cond.code yX0_ended cX0_ended 2 (some .boolean), Cond.fieldLink RX0 34 "FlightBooks" "faultCount" "I", Cond.methodLink RX0 72 yX0_changed, Cond.static yX0_changed, Cond.code yX0_changed cX0_changed 5 (some .int), Cond.methodLink RX0 129 yX0_changedGate, Cond.static yX0_changedGate, Cond.code yX0_changedGate cX0_changedGate 3 (some .int), Cond.methodLink RX0 68 yX0_put, Cond.instanceMethod yX0_put, Cond.selects RX0 yX0_put yX0_put, Cond.code yX0_put cX0_put 4 none, Cond.methodLink RX0 86 yX0_cut, Cond.static yX0_cut, Cond.code yX0_cut cX0_cut 2 (some .int), Cond.constant RX0 118 (65535), Cond.constant RX0 119 (-2000000), Cond.constant RX0 120 (2000000), Cond.methodLink RX0 40 yX0_nearest, Cond.static yX0_nearest, Cond.code yX0_nearest cX0_nearest 3 (some .int), Cond.methodLink RX0 121 Lib.Math.min.name, Cond.static Lib.Math.min.name, Cond.initialized "java/lang/Math"]
def wsX0_change_r3 : List Cond := [Cond.code Lib.Math.min.name Lib.Math.min.code 2 (some .int), Cond.methodLink RX0 126 Lib.Math.max.name, Cond.static Lib.Math.max.name, Cond.code Lib.Math.max.name Lib.Math.max.code 2 (some .int)]
def wsX0_change : List Cond := .code yX0_change cX0_change 5 (some .int) :: ((wsX0_change_r1 ++ (wsX0_change_r2 ++ wsX0_change_r3)) ++ wsX00)
def wsX0_tally : List Cond := .code yX0_tally cX0_tally 4 (some .int) :: ([.constant RX0 57 (-300000), .fieldLink RX0 37 "FlightBooks" "latestFault" "I", .fieldLink RX0 9 "FlightBooks" "lineCounts" "[I", .fieldLink RX0 15 "FlightBooks" "held" "[[I", .methodLink RX0 53 yX0_isBook, .static yX0_isBook, .initialized RX0, .code yX0_isBook cX0_isBook 1 (some .boolean), .methodLink RX0 58 yX0_endsAtBook, .instanceMethod yX0_endsAtBook, .selects RX0 yX0_endsAtBook yX0_endsAtBook, .code yX0_endsAtBook cX0_endsAtBook 2 (some .boolean), .constant RX0 110 (-100000), .methodLink RX0 111 yX0_ended, .instanceMethod yX0_ended, .selects RX0 yX0_ended yX0_ended, .code yX0_ended cX0_ended 2 (some .boolean), .fieldLink RX0 34 "FlightBooks" "faultCount" "I"] ++ wsX00)
def wsX0_told : List Cond := .code yX0_told cX0_told 2 (some .int) :: ([.methodLink RX0 40 yX0_nearest, .static yX0_nearest, .initialized RX0, .code yX0_nearest cX0_nearest 3 (some .int), .methodLink RX0 121 Lib.Math.min.name, .static Lib.Math.min.name, .initialized "java/lang/Math", .code Lib.Math.min.name Lib.Math.min.code 2 (some .int), .methodLink RX0 126 Lib.Math.max.name, .static Lib.Math.max.name, .code Lib.Math.max.name Lib.Math.max.code 2 (some .int)])
def wsX0_copy_r1 : List Cond := [Cond.constant RX0 57 (-300000), Cond.fieldLink RX0 37 "FlightBooks" "latestFault" "I", Cond.fieldLink RX0 9 "FlightBooks" "lineCounts" "[I", Cond.fieldLink RX0 15 "FlightBooks" "held" "[[I", Cond.methodLink RX0 53 yX0_isBook, Cond.static yX0_isBook, Cond.initialized RX0, Cond.code yX0_isBook cX0_isBook 1 (some .boolean), Cond.methodLink RX0 58 yX0_endsAtBook, Cond.instanceMethod yX0_endsAtBook, Cond.selects RX0 yX0_endsAtBook yX0_endsAtBook, Cond.code yX0_endsAtBook cX0_endsAtBook 2 (some .boolean), Cond.constant RX0 110 (-100000), Cond.methodLink RX0 111 yX0_ended, Cond.instanceMethod yX0_ended, Cond.selects RX0 yX0_ended yX0_ended, Cond.code yX0_ended cX0_ended 2 (some .boolean), Cond.fieldLink RX0 34 "FlightBooks" "faultCount" "I", Cond.methodLink RX0 61 yX0_endsAtLine, Cond.instanceMethod yX0_endsAtLine, Cond.selects RX0 yX0_endsAtLine yX0_endsAtLine, Cond.code yX0_endsAtLine cX0_endsAtLine 3 (some .boolean), Cond.constant RX0 114 (-200000), Cond.methodLink RX0 76 yX0_told]
def wsX0_copy_r2 : List Cond := [Cond.static yX0_told, Cond.code yX0_told cX0_told 2 (some .int), Cond.methodLink RX0 40 yX0_nearest, Cond.static yX0_nearest, Cond.code yX0_nearest cX0_nearest 3 (some .int), Cond.methodLink RX0 121 Lib.Math.min.name, Cond.static Lib.Math.min.name, Cond.initialized "java/lang/Math", Cond.code Lib.Math.min.name Lib.Math.min.code 2 (some .int), Cond.methodLink RX0 126 Lib.Math.max.name, Cond.static Lib.Math.max.name, Cond.code Lib.Math.max.name Lib.Math.max.code 2 (some .int), Cond.methodLink RX0 68 yX0_put, Cond.instanceMethod yX0_put, Cond.selects RX0 yX0_put yX0_put, Cond.code yX0_put cX0_put 4 none, Cond.methodLink RX0 86 yX0_cut, Cond.static yX0_cut, Cond.code yX0_cut cX0_cut 2 (some .int), Cond.constant RX0 118 (65535), Cond.constant RX0 119 (-2000000), Cond.constant RX0 120 (2000000)]
def wsX0_copy : List Cond := .code yX0_copy cX0_copy 4 (some .int) :: ((wsX0_copy_r1 ++ wsX0_copy_r2) ++ wsX00)
def wsX0_isChamber : List Cond := .code yX0_isChamber cX0_isChamber 2 (some .boolean) :: ([.fieldLink RX0 44 "FlightBooks" "chamberCount" "I"] ++ wsX00)
def wsX0_isLast : List Cond := .code yX0_isLast cX0_isLast 2 (some .boolean) :: ([.fieldLink RX0 44 "FlightBooks" "chamberCount" "I"] ++ wsX00)
def wsX0_sluice_r1 : List Cond := [Cond.constant RX0 57 (-300000), Cond.fieldLink RX0 37 "FlightBooks" "latestFault" "I", Cond.fieldLink RX0 15 "FlightBooks" "held" "[[I", Cond.methodLink RX0 80 yX0_isChamber, Cond.instanceMethod yX0_isChamber, Cond.selects RX0 yX0_isChamber yX0_isChamber, Cond.initialized RX0, Cond.code yX0_isChamber cX0_isChamber 2 (some .boolean), Cond.fieldLink RX0 44 "FlightBooks" "chamberCount" "I", Cond.methodLink RX0 61 yX0_endsAtLine, Cond.instanceMethod yX0_endsAtLine, Cond.selects RX0 yX0_endsAtLine yX0_endsAtLine, Cond.code yX0_endsAtLine cX0_endsAtLine 3 (some .boolean), Cond.fieldLink RX0 9 "FlightBooks" "lineCounts" "[I", Cond.constant RX0 114 (-200000), Cond.methodLink RX0 58 yX0_endsAtBook, Cond.instanceMethod yX0_endsAtBook, Cond.selects RX0 yX0_endsAtBook yX0_endsAtBook, Cond.code yX0_endsAtBook cX0_endsAtBook 2 (some .boolean), Cond.constant RX0 110 (-100000), Cond.methodLink RX0 111 yX0_ended, Cond.instanceMethod yX0_ended, Cond.selects RX0 yX0_ended yX0_ended, Cond.code yX0_ended cX0_ended 2 (some .boolean)]
def wsX0_sluice_r2 : List Cond := [Cond.fieldLink RX0 34 "FlightBooks" "faultCount" "I", Cond.methodLink RX0 68 yX0_put, Cond.instanceMethod yX0_put, Cond.selects RX0 yX0_put yX0_put, Cond.code yX0_put cX0_put 4 none, Cond.methodLink RX0 86 yX0_cut, Cond.static yX0_cut, Cond.code yX0_cut cX0_cut 2 (some .int), Cond.constant RX0 118 (65535), Cond.constant RX0 119 (-2000000), Cond.constant RX0 120 (2000000), Cond.methodLink RX0 40 yX0_nearest, Cond.static yX0_nearest, Cond.code yX0_nearest cX0_nearest 3 (some .int), Cond.methodLink RX0 121 Lib.Math.min.name, Cond.static Lib.Math.min.name, Cond.initialized "java/lang/Math", Cond.code Lib.Math.min.name Lib.Math.min.code 2 (some .int), Cond.methodLink RX0 126 Lib.Math.max.name, Cond.static Lib.Math.max.name, Cond.code Lib.Math.max.name Lib.Math.max.code 2 (some .int), Cond.methodLink RX0 83 yX0_isLast, Cond.instanceMethod yX0_isLast, Cond.selects RX0 yX0_isLast yX0_isLast]
def wsX0_sluice_r3 : List Cond := [Cond.code yX0_isLast cX0_isLast 2 (some .boolean)]
def wsX0_sluice : List Cond := .code yX0_sluice cX0_sluice 3 (some .int) :: ((wsX0_sluice_r1 ++ (wsX0_sluice_r2 ++ wsX0_sluice_r3)) ++ wsX00)
def wsX0_open_r1 : List Cond := [Cond.constant RX0 57 (-300000), Cond.fieldLink RX0 37 "FlightBooks" "latestFault" "I", Cond.fieldLink RX0 15 "FlightBooks" "held" "[[I", Cond.methodLink RX0 80 yX0_isChamber, Cond.instanceMethod yX0_isChamber, Cond.selects RX0 yX0_isChamber yX0_isChamber, Cond.initialized RX0, Cond.code yX0_isChamber cX0_isChamber 2 (some .boolean), Cond.fieldLink RX0 44 "FlightBooks" "chamberCount" "I", Cond.methodLink RX0 61 yX0_endsAtLine, Cond.instanceMethod yX0_endsAtLine, Cond.selects RX0 yX0_endsAtLine yX0_endsAtLine, Cond.code yX0_endsAtLine cX0_endsAtLine 3 (some .boolean), Cond.fieldLink RX0 9 "FlightBooks" "lineCounts" "[I", Cond.constant RX0 114 (-200000), Cond.methodLink RX0 58 yX0_endsAtBook, Cond.instanceMethod yX0_endsAtBook, Cond.selects RX0 yX0_endsAtBook yX0_endsAtBook, Cond.code yX0_endsAtBook cX0_endsAtBook 2 (some .boolean), Cond.constant RX0 110 (-100000), Cond.methodLink RX0 111 yX0_ended, Cond.instanceMethod yX0_ended, Cond.selects RX0 yX0_ended yX0_ended, Cond.code yX0_ended cX0_ended 2 (some .boolean)]
def wsX0_open_r2 : List Cond := [Cond.fieldLink RX0 34 "FlightBooks" "faultCount" "I", Cond.methodLink RX0 83 yX0_isLast, Cond.instanceMethod yX0_isLast, Cond.selects RX0 yX0_isLast yX0_isLast, Cond.code yX0_isLast cX0_isLast 2 (some .boolean), Cond.methodLink RX0 68 yX0_put, Cond.instanceMethod yX0_put, Cond.selects RX0 yX0_put yX0_put, Cond.code yX0_put cX0_put 4 none, Cond.methodLink RX0 86 yX0_cut, Cond.static yX0_cut, Cond.code yX0_cut cX0_cut 2 (some .int), Cond.constant RX0 118 (65535), Cond.constant RX0 119 (-2000000), Cond.constant RX0 120 (2000000), Cond.methodLink RX0 40 yX0_nearest, Cond.static yX0_nearest, Cond.code yX0_nearest cX0_nearest 3 (some .int), Cond.methodLink RX0 121 Lib.Math.min.name, Cond.static Lib.Math.min.name, Cond.initialized "java/lang/Math", Cond.code Lib.Math.min.name Lib.Math.min.code 2 (some .int), Cond.methodLink RX0 126 Lib.Math.max.name, Cond.static Lib.Math.max.name]
def wsX0_open_r3 : List Cond := [Cond.code Lib.Math.max.name Lib.Math.max.code 2 (some .int)]
def wsX0_open : List Cond := .code yX0_open cX0_open 3 (some .int) :: ((wsX0_open_r1 ++ (wsX0_open_r2 ++ wsX0_open_r3)) ++ wsX00)
def wsX0_shut_r1 : List Cond := [Cond.constant RX0 57 (-300000), Cond.fieldLink RX0 37 "FlightBooks" "latestFault" "I", Cond.fieldLink RX0 15 "FlightBooks" "held" "[[I", Cond.methodLink RX0 80 yX0_isChamber, Cond.instanceMethod yX0_isChamber, Cond.selects RX0 yX0_isChamber yX0_isChamber, Cond.initialized RX0, Cond.code yX0_isChamber cX0_isChamber 2 (some .boolean), Cond.fieldLink RX0 44 "FlightBooks" "chamberCount" "I", Cond.methodLink RX0 61 yX0_endsAtLine, Cond.instanceMethod yX0_endsAtLine, Cond.selects RX0 yX0_endsAtLine yX0_endsAtLine, Cond.code yX0_endsAtLine cX0_endsAtLine 3 (some .boolean), Cond.fieldLink RX0 9 "FlightBooks" "lineCounts" "[I", Cond.constant RX0 114 (-200000), Cond.methodLink RX0 58 yX0_endsAtBook, Cond.instanceMethod yX0_endsAtBook, Cond.selects RX0 yX0_endsAtBook yX0_endsAtBook, Cond.code yX0_endsAtBook cX0_endsAtBook 2 (some .boolean), Cond.constant RX0 110 (-100000), Cond.methodLink RX0 111 yX0_ended, Cond.instanceMethod yX0_ended, Cond.selects RX0 yX0_ended yX0_ended, Cond.code yX0_ended cX0_ended 2 (some .boolean)]
def wsX0_shut_r2 : List Cond := [Cond.fieldLink RX0 34 "FlightBooks" "faultCount" "I", Cond.methodLink RX0 68 yX0_put, Cond.instanceMethod yX0_put, Cond.selects RX0 yX0_put yX0_put, Cond.code yX0_put cX0_put 4 none, Cond.methodLink RX0 86 yX0_cut, Cond.static yX0_cut, Cond.code yX0_cut cX0_cut 2 (some .int), Cond.constant RX0 118 (65535), Cond.constant RX0 119 (-2000000), Cond.constant RX0 120 (2000000), Cond.methodLink RX0 40 yX0_nearest, Cond.static yX0_nearest, Cond.code yX0_nearest cX0_nearest 3 (some .int), Cond.methodLink RX0 121 Lib.Math.min.name, Cond.static Lib.Math.min.name, Cond.initialized "java/lang/Math", Cond.code Lib.Math.min.name Lib.Math.min.code 2 (some .int), Cond.methodLink RX0 126 Lib.Math.max.name, Cond.static Lib.Math.max.name, Cond.code Lib.Math.max.name Lib.Math.max.code 2 (some .int)]
def wsX0_shut : List Cond := .code yX0_shut cX0_shut 3 (some .int) :: ((wsX0_shut_r1 ++ wsX0_shut_r2) ++ wsX00)
def wsX0_endsAtArrival_r1 : List Cond := [Cond.fieldLink RX0 15 "FlightBooks" "held" "[[I", Cond.methodLink RX0 61 yX0_endsAtLine, Cond.instanceMethod yX0_endsAtLine, Cond.selects RX0 yX0_endsAtLine yX0_endsAtLine, Cond.initialized RX0, Cond.code yX0_endsAtLine cX0_endsAtLine 3 (some .boolean), Cond.fieldLink RX0 9 "FlightBooks" "lineCounts" "[I", Cond.constant RX0 114 (-200000), Cond.methodLink RX0 58 yX0_endsAtBook, Cond.instanceMethod yX0_endsAtBook, Cond.selects RX0 yX0_endsAtBook yX0_endsAtBook, Cond.code yX0_endsAtBook cX0_endsAtBook 2 (some .boolean), Cond.constant RX0 110 (-100000), Cond.methodLink RX0 111 yX0_ended, Cond.instanceMethod yX0_ended, Cond.selects RX0 yX0_ended yX0_ended, Cond.code yX0_ended cX0_ended 2 (some .boolean), Cond.fieldLink RX0 34 "FlightBooks" "faultCount" "I", Cond.fieldLink RX0 37 "FlightBooks" "latestFault" "I", Cond.methodLink RX0 68 yX0_put, Cond.instanceMethod yX0_put, Cond.selects RX0 yX0_put yX0_put, Cond.code yX0_put cX0_put 4 none, Cond.methodLink RX0 86 yX0_cut]
def wsX0_endsAtArrival_r2 : List Cond := [Cond.static yX0_cut, Cond.code yX0_cut cX0_cut 2 (some .int), Cond.constant RX0 118 (65535), Cond.constant RX0 119 (-2000000), Cond.constant RX0 120 (2000000), Cond.methodLink RX0 40 yX0_nearest, Cond.static yX0_nearest, Cond.code yX0_nearest cX0_nearest 3 (some .int), Cond.methodLink RX0 121 Lib.Math.min.name, Cond.static Lib.Math.min.name, Cond.initialized "java/lang/Math", Cond.code Lib.Math.min.name Lib.Math.min.code 2 (some .int), Cond.methodLink RX0 126 Lib.Math.max.name, Cond.static Lib.Math.max.name, Cond.code Lib.Math.max.name Lib.Math.max.code 2 (some .int)]
def wsX0_endsAtArrival : List Cond := .code yX0_endsAtArrival cX0_endsAtArrival 4 (some .boolean) :: ((wsX0_endsAtArrival_r1 ++ wsX0_endsAtArrival_r2) ++ wsX00)
def wsX0_enter_r1 : List Cond := [Cond.constant RX0 57 (-300000), Cond.fieldLink RX0 37 "FlightBooks" "latestFault" "I", Cond.fieldLink RX0 15 "FlightBooks" "held" "[[I", Cond.methodLink RX0 86 yX0_cut, Cond.static yX0_cut, Cond.initialized RX0, Cond.code yX0_cut cX0_cut 2 (some .int), Cond.constant RX0 118 (65535), Cond.constant RX0 119 (-2000000), Cond.constant RX0 120 (2000000), Cond.methodLink RX0 40 yX0_nearest, Cond.static yX0_nearest, Cond.code yX0_nearest cX0_nearest 3 (some .int), Cond.methodLink RX0 121 Lib.Math.min.name, Cond.static Lib.Math.min.name, Cond.initialized "java/lang/Math", Cond.code Lib.Math.min.name Lib.Math.min.code 2 (some .int), Cond.methodLink RX0 126 Lib.Math.max.name, Cond.static Lib.Math.max.name, Cond.code Lib.Math.max.name Lib.Math.max.code 2 (some .int), Cond.methodLink RX0 61 yX0_endsAtLine, Cond.instanceMethod yX0_endsAtLine, Cond.selects RX0 yX0_endsAtLine yX0_endsAtLine, Cond.code yX0_endsAtLine cX0_endsAtLine 3 (some .boolean)]
def wsX0_enter_r2 : List Cond := [Cond.fieldLink RX0 9 "FlightBooks" "lineCounts" "[I", Cond.constant RX0 114 (-200000), Cond.methodLink RX0 58 yX0_endsAtBook, Cond.instanceMethod yX0_endsAtBook, Cond.selects RX0 yX0_endsAtBook yX0_endsAtBook, Cond.code yX0_endsAtBook cX0_endsAtBook 2 (some .boolean), Cond.constant RX0 110 (-100000), Cond.methodLink RX0 111 yX0_ended, Cond.instanceMethod yX0_ended, Cond.selects RX0 yX0_ended yX0_ended, Cond.code yX0_ended cX0_ended 2 (some .boolean), Cond.fieldLink RX0 34 "FlightBooks" "faultCount" "I", Cond.methodLink RX0 89 yX0_endsAtArrival, Cond.instanceMethod yX0_endsAtArrival, Cond.selects RX0 yX0_endsAtArrival yX0_endsAtArrival, Cond.code yX0_endsAtArrival cX0_endsAtArrival 4 (some .boolean), Cond.methodLink RX0 68 yX0_put, Cond.instanceMethod yX0_put, Cond.selects RX0 yX0_put yX0_put, Cond.code yX0_put cX0_put 4 none]
def wsX0_enter : List Cond := .code yX0_enter cX0_enter 3 (some .int) :: ((wsX0_enter_r1 ++ wsX0_enter_r2) ++ wsX00)
def wsX0_leave : List Cond := .code yX0_leave cX0_leave 3 (some .int) :: ([.fieldLink RX0 15 "FlightBooks" "held" "[[I", .methodLink RX0 68 yX0_put, .instanceMethod yX0_put, .selects RX0 yX0_put yX0_put, .initialized RX0, .code yX0_put cX0_put 4 none, .methodLink RX0 86 yX0_cut, .static yX0_cut, .code yX0_cut cX0_cut 2 (some .int), .constant RX0 118 (65535), .constant RX0 119 (-2000000), .constant RX0 120 (2000000), .methodLink RX0 40 yX0_nearest, .static yX0_nearest, .code yX0_nearest cX0_nearest 3 (some .int), .methodLink RX0 121 Lib.Math.min.name, .static Lib.Math.min.name, .initialized "java/lang/Math", .code Lib.Math.min.name Lib.Math.min.code 2 (some .int), .methodLink RX0 126 Lib.Math.max.name, .static Lib.Math.max.name, .code Lib.Math.max.name Lib.Math.max.code 2 (some .int)] ++ wsX00)
def wsX0_goOut_r1 : List Cond := [Cond.fieldLink RX0 37 "FlightBooks" "latestFault" "I", Cond.fieldLink RX0 28 "FlightBooks" "bargesOut" "I", Cond.fieldLink RX0 31 "FlightBooks" "eighthsOut" "I", Cond.fieldLink RX0 15 "FlightBooks" "held" "[[I", Cond.methodLink RX0 61 yX0_endsAtLine, Cond.instanceMethod yX0_endsAtLine, Cond.selects RX0 yX0_endsAtLine yX0_endsAtLine, Cond.initialized RX0, Cond.code yX0_endsAtLine cX0_endsAtLine 3 (some .boolean), Cond.fieldLink RX0 9 "FlightBooks" "lineCounts" "[I", Cond.constant RX0 114 (-200000), Cond.methodLink RX0 58 yX0_endsAtBook, Cond.instanceMethod yX0_endsAtBook, Cond.selects RX0 yX0_endsAtBook yX0_endsAtBook, Cond.code yX0_endsAtBook cX0_endsAtBook 2 (some .boolean), Cond.constant RX0 110 (-100000), Cond.methodLink RX0 111 yX0_ended, Cond.instanceMethod yX0_ended, Cond.selects RX0 yX0_ended yX0_ended, Cond.code yX0_ended cX0_ended 2 (some .boolean), Cond.fieldLink RX0 34 "FlightBooks" "faultCount" "I", Cond.methodLink RX0 132 yX0_leave, Cond.instanceMethod yX0_leave, Cond.selects RX0 yX0_leave yX0_leave]
def wsX0_goOut_r2 : List Cond := [Cond.code yX0_leave cX0_leave 3 (some .int), Cond.methodLink RX0 68 yX0_put, Cond.instanceMethod yX0_put, Cond.selects RX0 yX0_put yX0_put, Cond.code yX0_put cX0_put 4 none, Cond.methodLink RX0 86 yX0_cut, Cond.static yX0_cut, Cond.code yX0_cut cX0_cut 2 (some .int), Cond.constant RX0 118 (65535), Cond.constant RX0 119 (-2000000), Cond.constant RX0 120 (2000000), Cond.methodLink RX0 40 yX0_nearest, Cond.static yX0_nearest, Cond.code yX0_nearest cX0_nearest 3 (some .int), Cond.methodLink RX0 121 Lib.Math.min.name, Cond.static Lib.Math.min.name, Cond.initialized "java/lang/Math", Cond.code Lib.Math.min.name Lib.Math.min.code 2 (some .int), Cond.methodLink RX0 126 Lib.Math.max.name, Cond.static Lib.Math.max.name, Cond.code Lib.Math.max.name Lib.Math.max.code 2 (some .int)]
def wsX0_goOut : List Cond := .code yX0_goOut cX0_goOut 2 (some .int) :: ((wsX0_goOut_r1 ++ wsX0_goOut_r2) ++ wsX00)
def wsX0_goOn_r1 : List Cond := [Cond.fieldLink RX0 37 "FlightBooks" "latestFault" "I", Cond.fieldLink RX0 15 "FlightBooks" "held" "[[I", Cond.methodLink RX0 61 yX0_endsAtLine, Cond.instanceMethod yX0_endsAtLine, Cond.selects RX0 yX0_endsAtLine yX0_endsAtLine, Cond.initialized RX0, Cond.code yX0_endsAtLine cX0_endsAtLine 3 (some .boolean), Cond.fieldLink RX0 9 "FlightBooks" "lineCounts" "[I", Cond.constant RX0 114 (-200000), Cond.methodLink RX0 58 yX0_endsAtBook, Cond.instanceMethod yX0_endsAtBook, Cond.selects RX0 yX0_endsAtBook yX0_endsAtBook, Cond.code yX0_endsAtBook cX0_endsAtBook 2 (some .boolean), Cond.constant RX0 110 (-100000), Cond.methodLink RX0 111 yX0_ended, Cond.instanceMethod yX0_ended, Cond.selects RX0 yX0_ended yX0_ended, Cond.code yX0_ended cX0_ended 2 (some .boolean), Cond.fieldLink RX0 34 "FlightBooks" "faultCount" "I", Cond.methodLink RX0 89 yX0_endsAtArrival, Cond.instanceMethod yX0_endsAtArrival, Cond.selects RX0 yX0_endsAtArrival yX0_endsAtArrival, Cond.code yX0_endsAtArrival cX0_endsAtArrival 4 (some .boolean), Cond.methodLink RX0 68 yX0_put]
def wsX0_goOn_r2 : List Cond := [Cond.instanceMethod yX0_put, Cond.selects RX0 yX0_put yX0_put, Cond.code yX0_put cX0_put 4 none, Cond.methodLink RX0 86 yX0_cut, Cond.static yX0_cut, Cond.code yX0_cut cX0_cut 2 (some .int), Cond.constant RX0 118 (65535), Cond.constant RX0 119 (-2000000), Cond.constant RX0 120 (2000000), Cond.methodLink RX0 40 yX0_nearest, Cond.static yX0_nearest, Cond.code yX0_nearest cX0_nearest 3 (some .int), Cond.methodLink RX0 121 Lib.Math.min.name, Cond.static Lib.Math.min.name, Cond.initialized "java/lang/Math", Cond.code Lib.Math.min.name Lib.Math.min.code 2 (some .int), Cond.methodLink RX0 126 Lib.Math.max.name, Cond.static Lib.Math.max.name, Cond.code Lib.Math.max.name Lib.Math.max.code 2 (some .int), Cond.methodLink RX0 132 yX0_leave, Cond.instanceMethod yX0_leave, Cond.selects RX0 yX0_leave yX0_leave, Cond.code yX0_leave cX0_leave 3 (some .int)]
def wsX0_goOn : List Cond := .code yX0_goOn cX0_goOn 3 (some .int) :: ((wsX0_goOn_r1 ++ wsX0_goOn_r2) ++ wsX00)
def wsX0_pass_r1 : List Cond := [Cond.constant RX0 57 (-300000), Cond.fieldLink RX0 37 "FlightBooks" "latestFault" "I", Cond.fieldLink RX0 15 "FlightBooks" "held" "[[I", Cond.methodLink RX0 80 yX0_isChamber, Cond.instanceMethod yX0_isChamber, Cond.selects RX0 yX0_isChamber yX0_isChamber, Cond.initialized RX0, Cond.code yX0_isChamber cX0_isChamber 2 (some .boolean), Cond.fieldLink RX0 44 "FlightBooks" "chamberCount" "I", Cond.methodLink RX0 61 yX0_endsAtLine, Cond.instanceMethod yX0_endsAtLine, Cond.selects RX0 yX0_endsAtLine yX0_endsAtLine, Cond.code yX0_endsAtLine cX0_endsAtLine 3 (some .boolean), Cond.fieldLink RX0 9 "FlightBooks" "lineCounts" "[I", Cond.constant RX0 114 (-200000), Cond.methodLink RX0 58 yX0_endsAtBook, Cond.instanceMethod yX0_endsAtBook, Cond.selects RX0 yX0_endsAtBook yX0_endsAtBook, Cond.code yX0_endsAtBook cX0_endsAtBook 2 (some .boolean), Cond.constant RX0 110 (-100000), Cond.methodLink RX0 111 yX0_ended, Cond.instanceMethod yX0_ended, Cond.selects RX0 yX0_ended yX0_ended, Cond.code yX0_ended cX0_ended 2 (some .boolean)]
def wsX0_pass_r2 : List Cond := [Cond.fieldLink RX0 34 "FlightBooks" "faultCount" "I", Cond.methodLink RX0 83 yX0_isLast, Cond.instanceMethod yX0_isLast, Cond.selects RX0 yX0_isLast yX0_isLast, Cond.code yX0_isLast cX0_isLast 2 (some .boolean), Cond.methodLink RX0 93 yX0_goOut, Cond.instanceMethod yX0_goOut, Cond.selects RX0 yX0_goOut yX0_goOut, Cond.code yX0_goOut cX0_goOut 2 (some .int), Cond.fieldLink RX0 28 "FlightBooks" "bargesOut" "I", Cond.fieldLink RX0 31 "FlightBooks" "eighthsOut" "I", Cond.methodLink RX0 132 yX0_leave, Cond.instanceMethod yX0_leave, Cond.selects RX0 yX0_leave yX0_leave, Cond.code yX0_leave cX0_leave 3 (some .int), Cond.methodLink RX0 68 yX0_put, Cond.instanceMethod yX0_put, Cond.selects RX0 yX0_put yX0_put, Cond.code yX0_put cX0_put 4 none, Cond.methodLink RX0 86 yX0_cut, Cond.static yX0_cut, Cond.code yX0_cut cX0_cut 2 (some .int), Cond.constant RX0 118 (65535), Cond.constant RX0 119 (-2000000)]
def wsX0_pass_r3 : List Cond := [Cond.constant RX0 120 (2000000), Cond.methodLink RX0 40 yX0_nearest, Cond.static yX0_nearest, Cond.code yX0_nearest cX0_nearest 3 (some .int), Cond.methodLink RX0 121 Lib.Math.min.name, Cond.static Lib.Math.min.name, Cond.initialized "java/lang/Math", Cond.code Lib.Math.min.name Lib.Math.min.code 2 (some .int), Cond.methodLink RX0 126 Lib.Math.max.name, Cond.static Lib.Math.max.name, Cond.code Lib.Math.max.name Lib.Math.max.code 2 (some .int), Cond.methodLink RX0 97 yX0_goOn, Cond.instanceMethod yX0_goOn, Cond.selects RX0 yX0_goOn yX0_goOn, Cond.code yX0_goOn cX0_goOn 3 (some .int), Cond.methodLink RX0 89 yX0_endsAtArrival, Cond.instanceMethod yX0_endsAtArrival, Cond.selects RX0 yX0_endsAtArrival yX0_endsAtArrival, Cond.code yX0_endsAtArrival cX0_endsAtArrival 4 (some .boolean)]
def wsX0_pass : List Cond := .code yX0_pass cX0_pass 2 (some .int) :: ((wsX0_pass_r1 ++ (wsX0_pass_r2 ++ wsX0_pass_r3)) ++ wsX00)
def wsX0_survey : List Cond := .code yX0_survey cX0_survey 4 (some .int) :: ([.fieldLink RX0 18 "FlightBooks" "places" "[[I", .fieldLink RX0 21 "FlightBooks" "rowCount" "I", .fieldLink RX0 25 "FlightBooks" "columnCount" "I", .methodLink RX0 47 yJ7_fill_53178, .static yJ7_fill_53178, .initialized RJ7, .code yJ7_fill_53178 cJ7_fill_53178 4 none] ++ wsX00)
def wsX0_endsAtRow : List Cond := .code yX0_endsAtRow cX0_endsAtRow 2 (some .boolean) :: ([.fieldLink RX0 21 "FlightBooks" "rowCount" "I", .constant RX0 115 (-100005), .constant RX0 116 (-200005), .methodLink RX0 111 yX0_ended, .instanceMethod yX0_ended, .selects RX0 yX0_ended yX0_ended, .initialized RX0, .code yX0_ended cX0_ended 2 (some .boolean), .fieldLink RX0 34 "FlightBooks" "faultCount" "I", .fieldLink RX0 37 "FlightBooks" "latestFault" "I"] ++ wsX00)
def wsX0_endsAtPlace : List Cond := .code yX0_endsAtPlace cX0_endsAtPlace 3 (some .boolean) :: ([.fieldLink RX0 25 "FlightBooks" "columnCount" "I", .constant RX0 117 (-200006), .methodLink RX0 103 yX0_endsAtRow, .instanceMethod yX0_endsAtRow, .selects RX0 yX0_endsAtRow yX0_endsAtRow, .initialized RX0, .code yX0_endsAtRow cX0_endsAtRow 2 (some .boolean), .fieldLink RX0 21 "FlightBooks" "rowCount" "I", .constant RX0 115 (-100005), .constant RX0 116 (-200005), .methodLink RX0 111 yX0_ended, .instanceMethod yX0_ended, .selects RX0 yX0_ended yX0_ended, .code yX0_ended cX0_ended 2 (some .boolean), .fieldLink RX0 34 "FlightBooks" "faultCount" "I", .fieldLink RX0 37 "FlightBooks" "latestFault" "I"] ++ wsX00)
def wsX0_note_r1 : List Cond := [Cond.constant RX0 57 (-300000), Cond.fieldLink RX0 37 "FlightBooks" "latestFault" "I", Cond.fieldLink RX0 18 "FlightBooks" "places" "[[I", Cond.fieldLink RX0 15 "FlightBooks" "held" "[[I", Cond.methodLink RX0 53 yX0_isBook, Cond.static yX0_isBook, Cond.initialized RX0, Cond.code yX0_isBook cX0_isBook 1 (some .boolean), Cond.methodLink RX0 61 yX0_endsAtLine, Cond.instanceMethod yX0_endsAtLine, Cond.selects RX0 yX0_endsAtLine yX0_endsAtLine, Cond.code yX0_endsAtLine cX0_endsAtLine 3 (some .boolean), Cond.fieldLink RX0 9 "FlightBooks" "lineCounts" "[I", Cond.constant RX0 114 (-200000), Cond.methodLink RX0 58 yX0_endsAtBook, Cond.instanceMethod yX0_endsAtBook, Cond.selects RX0 yX0_endsAtBook yX0_endsAtBook, Cond.code yX0_endsAtBook cX0_endsAtBook 2 (some .boolean), Cond.constant RX0 110 (-100000), Cond.methodLink RX0 111 yX0_ended, Cond.instanceMethod yX0_ended, Cond.selects RX0 yX0_ended yX0_ended, Cond.code yX0_ended cX0_ended 2 (some .boolean), Cond.fieldLink RX0 34 "FlightBooks" "faultCount" "I"]
def wsX0_note_r2 : List Cond := [Cond.methodLink RX0 100 yX0_endsAtPlace, Cond.instanceMethod yX0_endsAtPlace, Cond.selects RX0 yX0_endsAtPlace yX0_endsAtPlace, Cond.code yX0_endsAtPlace cX0_endsAtPlace 3 (some .boolean), Cond.fieldLink RX0 25 "FlightBooks" "columnCount" "I", Cond.constant RX0 117 (-200006), Cond.methodLink RX0 103 yX0_endsAtRow, Cond.instanceMethod yX0_endsAtRow, Cond.selects RX0 yX0_endsAtRow yX0_endsAtRow, Cond.code yX0_endsAtRow cX0_endsAtRow 2 (some .boolean), Cond.fieldLink RX0 21 "FlightBooks" "rowCount" "I", Cond.constant RX0 115 (-100005), Cond.constant RX0 116 (-200005)]
def wsX0_note : List Cond := .code yX0_note cX0_note 5 (some .int) :: ((wsX0_note_r1 ++ wsX0_note_r2) ++ wsX00)
def wsX0_chart : List Cond := .code yX0_chart cX0_chart 3 (some .int) :: ([.fieldLink RX0 37 "FlightBooks" "latestFault" "I", .fieldLink RX0 18 "FlightBooks" "places" "[[I", .methodLink RX0 100 yX0_endsAtPlace, .instanceMethod yX0_endsAtPlace, .selects RX0 yX0_endsAtPlace yX0_endsAtPlace, .initialized RX0, .code yX0_endsAtPlace cX0_endsAtPlace 3 (some .boolean), .fieldLink RX0 25 "FlightBooks" "columnCount" "I", .constant RX0 117 (-200006), .methodLink RX0 103 yX0_endsAtRow, .instanceMethod yX0_endsAtRow, .selects RX0 yX0_endsAtRow yX0_endsAtRow, .code yX0_endsAtRow cX0_endsAtRow 2 (some .boolean), .fieldLink RX0 21 "FlightBooks" "rowCount" "I", .constant RX0 115 (-100005), .constant RX0 116 (-200005), .methodLink RX0 111 yX0_ended, .instanceMethod yX0_ended, .selects RX0 yX0_ended yX0_ended, .code yX0_ended cX0_ended 2 (some .boolean), .fieldLink RX0 34 "FlightBooks" "faultCount" "I"] ++ wsX00)
def wsX0_columns : List Cond := .code yX0_columns cX0_columns 2 (some .int) :: ([.fieldLink RX0 37 "FlightBooks" "latestFault" "I", .fieldLink RX0 25 "FlightBooks" "columnCount" "I", .methodLink RX0 103 yX0_endsAtRow, .instanceMethod yX0_endsAtRow, .selects RX0 yX0_endsAtRow yX0_endsAtRow, .initialized RX0, .code yX0_endsAtRow cX0_endsAtRow 2 (some .boolean), .fieldLink RX0 21 "FlightBooks" "rowCount" "I", .constant RX0 115 (-100005), .constant RX0 116 (-200005), .methodLink RX0 111 yX0_ended, .instanceMethod yX0_ended, .selects RX0 yX0_ended yX0_ended, .code yX0_ended cX0_ended 2 (some .boolean), .fieldLink RX0 34 "FlightBooks" "faultCount" "I"] ++ wsX00)
def wsX0_booksKept : List Cond := .code yX0_booksKept cX0_booksKept 3 (some .int) :: ([.fieldLink RX0 9 "FlightBooks" "lineCounts" "[I"] ++ wsX00)
def wsX0_look : List Cond := .code yX0_look cX0_look 2 (some .int) :: ([.fieldLink RX0 44 "FlightBooks" "chamberCount" "I", .fieldLink RX0 28 "FlightBooks" "bargesOut" "I", .fieldLink RX0 31 "FlightBooks" "eighthsOut" "I", .fieldLink RX0 34 "FlightBooks" "faultCount" "I", .fieldLink RX0 37 "FlightBooks" "latestFault" "I", .constant RX0 57 (-300000), .methodLink RX0 106 yX0_booksKept, .instanceMethod yX0_booksKept, .selects RX0 yX0_booksKept yX0_booksKept, .initialized RX0, .code yX0_booksKept cX0_booksKept 3 (some .int), .fieldLink RX0 9 "FlightBooks" "lineCounts" "[I"] ++ wsX00)
def wsX1_init : List Cond := .code yX1_init cX1_init 3 none :: ([.methodLink RX1 1 objectInit, .instanceMethod objectInit, .code objectInit ⟨#[0xb1]⟩ 1 none, .arrayClass .int, .fieldLink RX1 7 "FlightBooksModel" "many" "[I", .fieldLink RX1 13 "FlightBooksModel" "cells" "[I", .fieldLink RX1 16 "FlightBooksModel" "places" "[I", .fieldLink RX1 19 "FlightBooksModel" "chambers" "I"] ++ wsX10)
def wsX1_isBook : List Cond := .code yX1_isBook cX1_isBook 1 (some .boolean) :: ([])
def wsX1_isChamber : List Cond := .code yX1_isChamber cX1_isChamber 2 (some .boolean) :: ([.fieldLink RX1 19 "FlightBooksModel" "chambers" "I"] ++ wsX10)
def wsX1_has : List Cond := .code yX1_has cX1_has 3 (some .boolean) :: ([.fieldLink RX1 23 "FlightBooksModel" "fault" "I", .fieldLink RX1 7 "FlightBooksModel" "many" "[I", .constant RX1 26 (-100000), .constant RX1 27 (-200000)] ++ wsX10)
def wsX1_cell : List Cond := .code yX1_cell cX1_cell 3 (some .int) :: ([.fieldLink RX1 13 "FlightBooksModel" "cells" "[I", .methodLink RX1 28 yX1_has, .instanceMethod yX1_has, .selects RX1 yX1_has yX1_has, .initialized RX1, .code yX1_has cX1_has 3 (some .boolean), .fieldLink RX1 23 "FlightBooksModel" "fault" "I", .fieldLink RX1 7 "FlightBooksModel" "many" "[I", .constant RX1 26 (-100000), .constant RX1 27 (-200000)] ++ wsX10)
def wsX1_cut : List Cond := .code yX1_cut cX1_cut 3 (some .int) :: ([.constant RX1 32 (65535), .constant RX1 33 (65536), .constant RX1 34 (2000000), .constant RX1 35 (-2000000)])
def wsX1_put : List Cond := .code yX1_put cX1_put 4 none :: ([.fieldLink RX1 13 "FlightBooksModel" "cells" "[I", .methodLink RX1 28 yX1_has, .instanceMethod yX1_has, .selects RX1 yX1_has yX1_has, .initialized RX1, .code yX1_has cX1_has 3 (some .boolean), .fieldLink RX1 23 "FlightBooksModel" "fault" "I", .fieldLink RX1 7 "FlightBooksModel" "many" "[I", .constant RX1 26 (-100000), .constant RX1 27 (-200000), .methodLink RX1 36 yX1_cut, .static yX1_cut, .code yX1_cut cX1_cut 3 (some .int), .constant RX1 32 (65535), .constant RX1 33 (65536), .constant RX1 34 (2000000), .constant RX1 35 (-2000000)] ++ wsX10)
def wsX1_more : List Cond := .code yX1_more cX1_more 4 none :: ([.fieldLink RX1 13 "FlightBooksModel" "cells" "[I", .methodLink RX1 28 yX1_has, .instanceMethod yX1_has, .selects RX1 yX1_has yX1_has, .initialized RX1, .code yX1_has cX1_has 3 (some .boolean), .fieldLink RX1 23 "FlightBooksModel" "fault" "I", .fieldLink RX1 7 "FlightBooksModel" "many" "[I", .constant RX1 26 (-100000), .constant RX1 27 (-200000), .methodLink RX1 36 yX1_cut, .static yX1_cut, .code yX1_cut cX1_cut 3 (some .int), .constant RX1 32 (65535), .constant RX1 33 (65536), .constant RX1 34 (2000000), .constant RX1 35 (-2000000)] ++ wsX10)
def wsX1_answer : List Cond := .code yX1_answer cX1_answer 2 (some .int) :: ([.fieldLink RX1 23 "FlightBooksModel" "fault" "I", .fieldLink RX1 40 "FlightBooksModel" "faults" "I", .fieldLink RX1 43 "FlightBooksModel" "latest" "I"] ++ wsX10)
def wsX1_keep : List Cond := .code yX1_keep cX1_keep 4 (some .int) :: ([.constant RX1 50 (-300000), .fieldLink RX1 7 "FlightBooksModel" "many" "[I", .fieldLink RX1 13 "FlightBooksModel" "cells" "[I", .methodLink RX1 46 yX1_isBook, .static yX1_isBook, .initialized RX1, .code yX1_isBook cX1_isBook 1 (some .boolean)] ++ wsX10)
def wsX1_lose : List Cond := .code yX1_lose cX1_lose 3 (some .int) :: ([.constant RX1 50 (-300000), .fieldLink RX1 7 "FlightBooksModel" "many" "[I", .methodLink RX1 46 yX1_isBook, .static yX1_isBook, .initialized RX1, .code yX1_isBook cX1_isBook 1 (some .boolean)] ++ wsX10)
def wsX1_lines : List Cond := .code yX1_lines cX1_lines 2 (some .int) :: ([.constant RX1 50 (-300000), .fieldLink RX1 7 "FlightBooksModel" "many" "[I", .constant RX1 26 (-100000), .fieldLink RX1 23 "FlightBooksModel" "fault" "I", .methodLink RX1 46 yX1_isBook, .static yX1_isBook, .initialized RX1, .code yX1_isBook cX1_isBook 1 (some .boolean), .methodLink RX1 51 yX1_answer, .instanceMethod yX1_answer, .selects RX1 yX1_answer yX1_answer, .code yX1_answer cX1_answer 2 (some .int), .fieldLink RX1 40 "FlightBooksModel" "faults" "I", .fieldLink RX1 43 "FlightBooksModel" "latest" "I"] ++ wsX10)
def wsX1_read : List Cond := .code yX1_read cX1_read 4 (some .int) :: ([.constant RX1 50 (-300000), .fieldLink RX1 23 "FlightBooksModel" "fault" "I", .methodLink RX1 46 yX1_isBook, .static yX1_isBook, .initialized RX1, .code yX1_isBook cX1_isBook 1 (some .boolean), .methodLink RX1 55 yX1_cell, .instanceMethod yX1_cell, .selects RX1 yX1_cell yX1_cell, .code yX1_cell cX1_cell 3 (some .int), .fieldLink RX1 13 "FlightBooksModel" "cells" "[I", .methodLink RX1 28 yX1_has, .instanceMethod yX1_has, .selects RX1 yX1_has yX1_has, .code yX1_has cX1_has 3 (some .boolean), .fieldLink RX1 7 "FlightBooksModel" "many" "[I", .constant RX1 26 (-100000), .constant RX1 27 (-200000), .methodLink RX1 51 yX1_answer, .instanceMethod yX1_answer, .selects RX1 yX1_answer yX1_answer, .code yX1_answer cX1_answer 2 (some .int), .fieldLink RX1 40 "FlightBooksModel" "faults" "I", .fieldLink RX1 43 "FlightBooksModel" "latest" "I"] ++ wsX10)
def wsX1_isLoad : List Cond := .code yX1_isLoad cX1_isLoad 1 (some .boolean) :: ([])
def wsX1_write_r1 : List Cond := [Cond.constant RX1 50 (-300000), Cond.fieldLink RX1 23 "FlightBooksModel" "fault" "I", Cond.methodLink RX1 46 yX1_isBook, Cond.static yX1_isBook, Cond.initialized RX1, Cond.code yX1_isBook cX1_isBook 1 (some .boolean), Cond.methodLink RX1 58 yX1_isLoad, Cond.static yX1_isLoad, Cond.code yX1_isLoad cX1_isLoad 1 (some .boolean), Cond.methodLink RX1 61 yX1_put, Cond.instanceMethod yX1_put, Cond.selects RX1 yX1_put yX1_put, Cond.code yX1_put cX1_put 4 none, Cond.fieldLink RX1 13 "FlightBooksModel" "cells" "[I", Cond.methodLink RX1 28 yX1_has, Cond.instanceMethod yX1_has, Cond.selects RX1 yX1_has yX1_has, Cond.code yX1_has cX1_has 3 (some .boolean), Cond.fieldLink RX1 7 "FlightBooksModel" "many" "[I", Cond.constant RX1 26 (-100000), Cond.constant RX1 27 (-200000), Cond.methodLink RX1 36 yX1_cut, Cond.static yX1_cut, Cond.code yX1_cut cX1_cut 3 (some .int)]
def wsX1_write_r2 : List Cond := [Cond.constant RX1 32 (65535), Cond.constant RX1 33 (65536), Cond.constant RX1 34 (2000000), Cond.constant RX1 35 (-2000000), Cond.methodLink RX1 51 yX1_answer, Cond.instanceMethod yX1_answer, Cond.selects RX1 yX1_answer yX1_answer, Cond.code yX1_answer cX1_answer 2 (some .int), Cond.fieldLink RX1 40 "FlightBooksModel" "faults" "I", Cond.fieldLink RX1 43 "FlightBooksModel" "latest" "I"]
def wsX1_write : List Cond := .code yX1_write cX1_write 4 (some .int) :: ((wsX1_write_r1 ++ wsX1_write_r2) ++ wsX10)
def wsX1_gate : List Cond := .code yX1_gate cX1_gate 4 (some .int) :: ([])
def wsX1_change_r1 : List Cond := [Cond.constant RX1 50 (-300000), Cond.fieldLink RX1 23 "FlightBooksModel" "fault" "I", Cond.methodLink RX1 46 yX1_isBook, Cond.static yX1_isBook, Cond.initialized RX1, Cond.code yX1_isBook cX1_isBook 1 (some .boolean), Cond.methodLink RX1 58 yX1_isLoad, Cond.static yX1_isLoad, Cond.code yX1_isLoad cX1_isLoad 1 (some .boolean), Cond.methodLink RX1 55 yX1_cell, Cond.instanceMethod yX1_cell, Cond.selects RX1 yX1_cell yX1_cell, Cond.code yX1_cell cX1_cell 3 (some .int), Cond.fieldLink RX1 13 "FlightBooksModel" "cells" "[I", Cond.methodLink RX1 28 yX1_has, Cond.instanceMethod yX1_has, Cond.selects RX1 yX1_has yX1_has, Cond.code yX1_has cX1_has 3 (some .boolean), Cond.fieldLink RX1 7 "FlightBooksModel" "many" "[I", Cond.constant RX1 26 (-100000), Cond.constant RX1 27 (-200000), Cond.methodLink RX1 65 yX1_gate, Cond.static yX1_gate, Cond.code yX1_gate cX1_gate 4 (some .int)]
def wsX1_change_r2 : List Cond := [Cond.methodLink RX1 61 yX1_put, Cond.instanceMethod yX1_put, Cond.selects RX1 yX1_put yX1_put, Cond.code yX1_put cX1_put 4 none, Cond.methodLink RX1 36 yX1_cut, Cond.static yX1_cut, Cond.code yX1_cut cX1_cut 3 (some .int), Cond.constant RX1 32 (65535), Cond.constant RX1 33 (65536), Cond.constant RX1 34 (2000000), Cond.constant RX1 35 (-2000000), Cond.methodLink RX1 51 yX1_answer, Cond.instanceMethod yX1_answer, Cond.selects RX1 yX1_answer yX1_answer, Cond.code yX1_answer cX1_answer 2 (some .int), Cond.fieldLink RX1 40 "FlightBooksModel" "faults" "I", Cond.fieldLink RX1 43 "FlightBooksModel" "latest" "I"]
def wsX1_change : List Cond := .code yX1_change cX1_change 10 (some .int) :: ((wsX1_change_r1 ++ wsX1_change_r2) ++ wsX10)
def wsX1_tally : List Cond := .code yX1_tally cX1_tally 4 (some .int) :: ([.constant RX1 50 (-300000), .fieldLink RX1 7 "FlightBooksModel" "many" "[I", .constant RX1 26 (-100000), .fieldLink RX1 23 "FlightBooksModel" "fault" "I", .fieldLink RX1 13 "FlightBooksModel" "cells" "[I", .methodLink RX1 46 yX1_isBook, .static yX1_isBook, .initialized RX1, .code yX1_isBook cX1_isBook 1 (some .boolean), .methodLink RX1 51 yX1_answer, .instanceMethod yX1_answer, .selects RX1 yX1_answer yX1_answer, .code yX1_answer cX1_answer 2 (some .int), .fieldLink RX1 40 "FlightBooksModel" "faults" "I", .fieldLink RX1 43 "FlightBooksModel" "latest" "I"] ++ wsX10)
def wsX1_copy_r1 : List Cond := [Cond.constant RX1 50 (-300000), Cond.fieldLink RX1 7 "FlightBooksModel" "many" "[I", Cond.constant RX1 26 (-100000), Cond.fieldLink RX1 23 "FlightBooksModel" "fault" "I", Cond.fieldLink RX1 13 "FlightBooksModel" "cells" "[I", Cond.methodLink RX1 46 yX1_isBook, Cond.static yX1_isBook, Cond.initialized RX1, Cond.code yX1_isBook cX1_isBook 1 (some .boolean), Cond.methodLink RX1 61 yX1_put, Cond.instanceMethod yX1_put, Cond.selects RX1 yX1_put yX1_put, Cond.code yX1_put cX1_put 4 none, Cond.methodLink RX1 28 yX1_has, Cond.instanceMethod yX1_has, Cond.selects RX1 yX1_has yX1_has, Cond.code yX1_has cX1_has 3 (some .boolean), Cond.constant RX1 27 (-200000), Cond.methodLink RX1 36 yX1_cut, Cond.static yX1_cut, Cond.code yX1_cut cX1_cut 3 (some .int), Cond.constant RX1 32 (65535), Cond.constant RX1 33 (65536), Cond.constant RX1 34 (2000000)]
def wsX1_copy_r2 : List Cond := [Cond.constant RX1 35 (-2000000), Cond.methodLink RX1 51 yX1_answer, Cond.instanceMethod yX1_answer, Cond.selects RX1 yX1_answer yX1_answer, Cond.code yX1_answer cX1_answer 2 (some .int), Cond.fieldLink RX1 40 "FlightBooksModel" "faults" "I", Cond.fieldLink RX1 43 "FlightBooksModel" "latest" "I"]
def wsX1_copy : List Cond := .code yX1_copy cX1_copy 5 (some .int) :: ((wsX1_copy_r1 ++ wsX1_copy_r2) ++ wsX10)
def wsX1_sluice_r1 : List Cond := [Cond.constant RX1 50 (-300000), Cond.fieldLink RX1 23 "FlightBooksModel" "fault" "I", Cond.fieldLink RX1 19 "FlightBooksModel" "chambers" "I", Cond.methodLink RX1 69 yX1_isChamber, Cond.instanceMethod yX1_isChamber, Cond.selects RX1 yX1_isChamber yX1_isChamber, Cond.initialized RX1, Cond.code yX1_isChamber cX1_isChamber 2 (some .boolean), Cond.methodLink RX1 72 yX1_more, Cond.instanceMethod yX1_more, Cond.selects RX1 yX1_more yX1_more, Cond.code yX1_more cX1_more 4 none, Cond.fieldLink RX1 13 "FlightBooksModel" "cells" "[I", Cond.methodLink RX1 28 yX1_has, Cond.instanceMethod yX1_has, Cond.selects RX1 yX1_has yX1_has, Cond.code yX1_has cX1_has 3 (some .boolean), Cond.fieldLink RX1 7 "FlightBooksModel" "many" "[I", Cond.constant RX1 26 (-100000), Cond.constant RX1 27 (-200000), Cond.methodLink RX1 36 yX1_cut, Cond.static yX1_cut, Cond.code yX1_cut cX1_cut 3 (some .int), Cond.constant RX1 32 (65535)]
def wsX1_sluice_r2 : List Cond := [Cond.constant RX1 33 (65536), Cond.constant RX1 34 (2000000), Cond.constant RX1 35 (-2000000), Cond.methodLink RX1 55 yX1_cell, Cond.instanceMethod yX1_cell, Cond.selects RX1 yX1_cell yX1_cell, Cond.code yX1_cell cX1_cell 3 (some .int), Cond.methodLink RX1 51 yX1_answer, Cond.instanceMethod yX1_answer, Cond.selects RX1 yX1_answer yX1_answer, Cond.code yX1_answer cX1_answer 2 (some .int), Cond.fieldLink RX1 40 "FlightBooksModel" "faults" "I", Cond.fieldLink RX1 43 "FlightBooksModel" "latest" "I"]
def wsX1_sluice : List Cond := .code yX1_sluice cX1_sluice 4 (some .int) :: ((wsX1_sluice_r1 ++ wsX1_sluice_r2) ++ wsX10)
def wsX1_open_r1 : List Cond := [Cond.constant RX1 50 (-300000), Cond.fieldLink RX1 23 "FlightBooksModel" "fault" "I", Cond.fieldLink RX1 19 "FlightBooksModel" "chambers" "I", Cond.methodLink RX1 69 yX1_isChamber, Cond.instanceMethod yX1_isChamber, Cond.selects RX1 yX1_isChamber yX1_isChamber, Cond.initialized RX1, Cond.code yX1_isChamber cX1_isChamber 2 (some .boolean), Cond.methodLink RX1 55 yX1_cell, Cond.instanceMethod yX1_cell, Cond.selects RX1 yX1_cell yX1_cell, Cond.code yX1_cell cX1_cell 3 (some .int), Cond.fieldLink RX1 13 "FlightBooksModel" "cells" "[I", Cond.methodLink RX1 28 yX1_has, Cond.instanceMethod yX1_has, Cond.selects RX1 yX1_has yX1_has, Cond.code yX1_has cX1_has 3 (some .boolean), Cond.fieldLink RX1 7 "FlightBooksModel" "many" "[I", Cond.constant RX1 26 (-100000), Cond.constant RX1 27 (-200000), Cond.methodLink RX1 61 yX1_put, Cond.instanceMethod yX1_put, Cond.selects RX1 yX1_put yX1_put, Cond.code yX1_put cX1_put 4 none]
def wsX1_open_r2 : List Cond := [Cond.methodLink RX1 36 yX1_cut, Cond.static yX1_cut, Cond.code yX1_cut cX1_cut 3 (some .int), Cond.constant RX1 32 (65535), Cond.constant RX1 33 (65536), Cond.constant RX1 34 (2000000), Cond.constant RX1 35 (-2000000), Cond.methodLink RX1 51 yX1_answer, Cond.instanceMethod yX1_answer, Cond.selects RX1 yX1_answer yX1_answer, Cond.code yX1_answer cX1_answer 2 (some .int), Cond.fieldLink RX1 40 "FlightBooksModel" "faults" "I", Cond.fieldLink RX1 43 "FlightBooksModel" "latest" "I"]
def wsX1_open : List Cond := .code yX1_open cX1_open 4 (some .int) :: ((wsX1_open_r1 ++ wsX1_open_r2) ++ wsX10)
def wsX1_shut_r1 : List Cond := [Cond.constant RX1 50 (-300000), Cond.fieldLink RX1 23 "FlightBooksModel" "fault" "I", Cond.methodLink RX1 69 yX1_isChamber, Cond.instanceMethod yX1_isChamber, Cond.selects RX1 yX1_isChamber yX1_isChamber, Cond.initialized RX1, Cond.code yX1_isChamber cX1_isChamber 2 (some .boolean), Cond.fieldLink RX1 19 "FlightBooksModel" "chambers" "I", Cond.methodLink RX1 55 yX1_cell, Cond.instanceMethod yX1_cell, Cond.selects RX1 yX1_cell yX1_cell, Cond.code yX1_cell cX1_cell 3 (some .int), Cond.fieldLink RX1 13 "FlightBooksModel" "cells" "[I", Cond.methodLink RX1 28 yX1_has, Cond.instanceMethod yX1_has, Cond.selects RX1 yX1_has yX1_has, Cond.code yX1_has cX1_has 3 (some .boolean), Cond.fieldLink RX1 7 "FlightBooksModel" "many" "[I", Cond.constant RX1 26 (-100000), Cond.constant RX1 27 (-200000), Cond.methodLink RX1 61 yX1_put, Cond.instanceMethod yX1_put, Cond.selects RX1 yX1_put yX1_put, Cond.code yX1_put cX1_put 4 none]
def wsX1_shut_r2 : List Cond := [Cond.methodLink RX1 36 yX1_cut, Cond.static yX1_cut, Cond.code yX1_cut cX1_cut 3 (some .int), Cond.constant RX1 32 (65535), Cond.constant RX1 33 (65536), Cond.constant RX1 34 (2000000), Cond.constant RX1 35 (-2000000), Cond.methodLink RX1 51 yX1_answer, Cond.instanceMethod yX1_answer, Cond.selects RX1 yX1_answer yX1_answer, Cond.code yX1_answer cX1_answer 2 (some .int), Cond.fieldLink RX1 40 "FlightBooksModel" "faults" "I", Cond.fieldLink RX1 43 "FlightBooksModel" "latest" "I"]
def wsX1_shut : List Cond := .code yX1_shut cX1_shut 3 (some .int) :: ((wsX1_shut_r1 ++ wsX1_shut_r2) ++ wsX10)
def wsX1_enter_r1 : List Cond := [Cond.constant RX1 32 (65535), Cond.constant RX1 50 (-300000), Cond.fieldLink RX1 23 "FlightBooksModel" "fault" "I", Cond.methodLink RX1 55 yX1_cell, Cond.instanceMethod yX1_cell, Cond.selects RX1 yX1_cell yX1_cell, Cond.initialized RX1, Cond.code yX1_cell cX1_cell 3 (some .int), Cond.fieldLink RX1 13 "FlightBooksModel" "cells" "[I", Cond.methodLink RX1 28 yX1_has, Cond.instanceMethod yX1_has, Cond.selects RX1 yX1_has yX1_has, Cond.code yX1_has cX1_has 3 (some .boolean), Cond.fieldLink RX1 7 "FlightBooksModel" "many" "[I", Cond.constant RX1 26 (-100000), Cond.constant RX1 27 (-200000), Cond.methodLink RX1 61 yX1_put, Cond.instanceMethod yX1_put, Cond.selects RX1 yX1_put yX1_put, Cond.code yX1_put cX1_put 4 none, Cond.methodLink RX1 36 yX1_cut, Cond.static yX1_cut, Cond.code yX1_cut cX1_cut 3 (some .int), Cond.constant RX1 33 (65536)]
def wsX1_enter_r2 : List Cond := [Cond.constant RX1 34 (2000000), Cond.constant RX1 35 (-2000000), Cond.methodLink RX1 72 yX1_more, Cond.instanceMethod yX1_more, Cond.selects RX1 yX1_more yX1_more, Cond.code yX1_more cX1_more 4 none, Cond.methodLink RX1 51 yX1_answer, Cond.instanceMethod yX1_answer, Cond.selects RX1 yX1_answer yX1_answer, Cond.code yX1_answer cX1_answer 2 (some .int), Cond.fieldLink RX1 40 "FlightBooksModel" "faults" "I", Cond.fieldLink RX1 43 "FlightBooksModel" "latest" "I"]
def wsX1_enter : List Cond := .code yX1_enter cX1_enter 6 (some .int) :: ((wsX1_enter_r1 ++ wsX1_enter_r2) ++ wsX10)
def wsX1_moved_r1 : List Cond := [Cond.methodLink RX1 55 yX1_cell, Cond.instanceMethod yX1_cell, Cond.selects RX1 yX1_cell yX1_cell, Cond.initialized RX1, Cond.code yX1_cell cX1_cell 3 (some .int), Cond.fieldLink RX1 13 "FlightBooksModel" "cells" "[I", Cond.methodLink RX1 28 yX1_has, Cond.instanceMethod yX1_has, Cond.selects RX1 yX1_has yX1_has, Cond.code yX1_has cX1_has 3 (some .boolean), Cond.fieldLink RX1 23 "FlightBooksModel" "fault" "I", Cond.fieldLink RX1 7 "FlightBooksModel" "many" "[I", Cond.constant RX1 26 (-100000), Cond.constant RX1 27 (-200000), Cond.methodLink RX1 61 yX1_put, Cond.instanceMethod yX1_put, Cond.selects RX1 yX1_put yX1_put, Cond.code yX1_put cX1_put 4 none, Cond.methodLink RX1 36 yX1_cut, Cond.static yX1_cut, Cond.code yX1_cut cX1_cut 3 (some .int), Cond.constant RX1 32 (65535), Cond.constant RX1 33 (65536), Cond.constant RX1 34 (2000000)]
def wsX1_moved_r2 : List Cond := [Cond.constant RX1 35 (-2000000), Cond.methodLink RX1 72 yX1_more, Cond.instanceMethod yX1_more, Cond.selects RX1 yX1_more yX1_more, Cond.code yX1_more cX1_more 4 none]
def wsX1_moved : List Cond := .code yX1_moved cX1_moved 4 (some .int) :: ((wsX1_moved_r1 ++ wsX1_moved_r2) ++ wsX10)
def wsX1_pass_r1 : List Cond := [Cond.constant RX1 50 (-300000), Cond.fieldLink RX1 23 "FlightBooksModel" "fault" "I", Cond.fieldLink RX1 19 "FlightBooksModel" "chambers" "I", Cond.fieldLink RX1 75 "FlightBooksModel" "out" "I", Cond.fieldLink RX1 78 "FlightBooksModel" "outLoads" "I", Cond.methodLink RX1 69 yX1_isChamber, Cond.instanceMethod yX1_isChamber, Cond.selects RX1 yX1_isChamber yX1_isChamber, Cond.initialized RX1, Cond.code yX1_isChamber cX1_isChamber 2 (some .boolean), Cond.methodLink RX1 55 yX1_cell, Cond.instanceMethod yX1_cell, Cond.selects RX1 yX1_cell yX1_cell, Cond.code yX1_cell cX1_cell 3 (some .int), Cond.fieldLink RX1 13 "FlightBooksModel" "cells" "[I", Cond.methodLink RX1 28 yX1_has, Cond.instanceMethod yX1_has, Cond.selects RX1 yX1_has yX1_has, Cond.code yX1_has cX1_has 3 (some .boolean), Cond.fieldLink RX1 7 "FlightBooksModel" "many" "[I", Cond.constant RX1 26 (-100000), Cond.constant RX1 27 (-200000), Cond.methodLink RX1 81 yX1_moved, Cond.instanceMethod yX1_moved]
def wsX1_pass_r2 : List Cond := [Cond.selects RX1 yX1_moved yX1_moved, Cond.code yX1_moved cX1_moved 4 (some .int), Cond.methodLink RX1 61 yX1_put, Cond.instanceMethod yX1_put, Cond.selects RX1 yX1_put yX1_put, Cond.code yX1_put cX1_put 4 none, Cond.methodLink RX1 36 yX1_cut, Cond.static yX1_cut, Cond.code yX1_cut cX1_cut 3 (some .int), Cond.constant RX1 32 (65535), Cond.constant RX1 33 (65536), Cond.constant RX1 34 (2000000), Cond.constant RX1 35 (-2000000), Cond.methodLink RX1 72 yX1_more, Cond.instanceMethod yX1_more, Cond.selects RX1 yX1_more yX1_more, Cond.code yX1_more cX1_more 4 none, Cond.methodLink RX1 51 yX1_answer, Cond.instanceMethod yX1_answer, Cond.selects RX1 yX1_answer yX1_answer, Cond.code yX1_answer cX1_answer 2 (some .int), Cond.fieldLink RX1 40 "FlightBooksModel" "faults" "I", Cond.fieldLink RX1 43 "FlightBooksModel" "latest" "I"]
def wsX1_pass : List Cond := .code yX1_pass cX1_pass 6 (some .int) :: ((wsX1_pass_r1 ++ wsX1_pass_r2) ++ wsX10)
def wsX1_survey : List Cond := .code yX1_survey cX1_survey 4 (some .int) :: ([.fieldLink RX1 84 "FlightBooksModel" "charted" "Z", .fieldLink RX1 88 "FlightBooksModel" "rows" "I", .fieldLink RX1 91 "FlightBooksModel" "across" "I", .fieldLink RX1 16 "FlightBooksModel" "places" "[I"] ++ wsX10)
def wsX1_hasRow : List Cond := .code yX1_hasRow cX1_hasRow 2 (some .boolean) :: ([.fieldLink RX1 23 "FlightBooksModel" "fault" "I", .fieldLink RX1 84 "FlightBooksModel" "charted" "Z", .constant RX1 94 (-100005), .fieldLink RX1 88 "FlightBooksModel" "rows" "I", .constant RX1 95 (-200005)] ++ wsX10)
def wsX1_hasPlace : List Cond := .code yX1_hasPlace cX1_hasPlace 3 (some .boolean) :: ([.fieldLink RX1 91 "FlightBooksModel" "across" "I", .constant RX1 99 (-200006), .fieldLink RX1 23 "FlightBooksModel" "fault" "I", .methodLink RX1 96 yX1_hasRow, .instanceMethod yX1_hasRow, .selects RX1 yX1_hasRow yX1_hasRow, .initialized RX1, .code yX1_hasRow cX1_hasRow 2 (some .boolean), .fieldLink RX1 84 "FlightBooksModel" "charted" "Z", .constant RX1 94 (-100005), .fieldLink RX1 88 "FlightBooksModel" "rows" "I", .constant RX1 95 (-200005)] ++ wsX10)
def wsX1_note_r1 : List Cond := [Cond.constant RX1 50 (-300000), Cond.fieldLink RX1 23 "FlightBooksModel" "fault" "I", Cond.fieldLink RX1 16 "FlightBooksModel" "places" "[I", Cond.methodLink RX1 46 yX1_isBook, Cond.static yX1_isBook, Cond.initialized RX1, Cond.code yX1_isBook cX1_isBook 1 (some .boolean), Cond.methodLink RX1 55 yX1_cell, Cond.instanceMethod yX1_cell, Cond.selects RX1 yX1_cell yX1_cell, Cond.code yX1_cell cX1_cell 3 (some .int), Cond.fieldLink RX1 13 "FlightBooksModel" "cells" "[I", Cond.methodLink RX1 28 yX1_has, Cond.instanceMethod yX1_has, Cond.selects RX1 yX1_has yX1_has, Cond.code yX1_has cX1_has 3 (some .boolean), Cond.fieldLink RX1 7 "FlightBooksModel" "many" "[I", Cond.constant RX1 26 (-100000), Cond.constant RX1 27 (-200000), Cond.methodLink RX1 100 yX1_hasPlace, Cond.instanceMethod yX1_hasPlace, Cond.selects RX1 yX1_hasPlace yX1_hasPlace, Cond.code yX1_hasPlace cX1_hasPlace 3 (some .boolean), Cond.fieldLink RX1 91 "FlightBooksModel" "across" "I"]
def wsX1_note_r2 : List Cond := [Cond.constant RX1 99 (-200006), Cond.methodLink RX1 96 yX1_hasRow, Cond.instanceMethod yX1_hasRow, Cond.selects RX1 yX1_hasRow yX1_hasRow, Cond.code yX1_hasRow cX1_hasRow 2 (some .boolean), Cond.fieldLink RX1 84 "FlightBooksModel" "charted" "Z", Cond.constant RX1 94 (-100005), Cond.fieldLink RX1 88 "FlightBooksModel" "rows" "I", Cond.constant RX1 95 (-200005), Cond.methodLink RX1 51 yX1_answer, Cond.instanceMethod yX1_answer, Cond.selects RX1 yX1_answer yX1_answer, Cond.code yX1_answer cX1_answer 2 (some .int), Cond.fieldLink RX1 40 "FlightBooksModel" "faults" "I", Cond.fieldLink RX1 43 "FlightBooksModel" "latest" "I"]
def wsX1_note : List Cond := .code yX1_note cX1_note 6 (some .int) :: ((wsX1_note_r1 ++ wsX1_note_r2) ++ wsX10)
def wsX1_chart : List Cond := .code yX1_chart cX1_chart 4 (some .int) :: ([.fieldLink RX1 23 "FlightBooksModel" "fault" "I", .fieldLink RX1 16 "FlightBooksModel" "places" "[I", .methodLink RX1 100 yX1_hasPlace, .instanceMethod yX1_hasPlace, .selects RX1 yX1_hasPlace yX1_hasPlace, .initialized RX1, .code yX1_hasPlace cX1_hasPlace 3 (some .boolean), .fieldLink RX1 91 "FlightBooksModel" "across" "I", .constant RX1 99 (-200006), .methodLink RX1 96 yX1_hasRow, .instanceMethod yX1_hasRow, .selects RX1 yX1_hasRow yX1_hasRow, .code yX1_hasRow cX1_hasRow 2 (some .boolean), .fieldLink RX1 84 "FlightBooksModel" "charted" "Z", .constant RX1 94 (-100005), .fieldLink RX1 88 "FlightBooksModel" "rows" "I", .constant RX1 95 (-200005), .methodLink RX1 51 yX1_answer, .instanceMethod yX1_answer, .selects RX1 yX1_answer yX1_answer, .code yX1_answer cX1_answer 2 (some .int), .fieldLink RX1 40 "FlightBooksModel" "faults" "I", .fieldLink RX1 43 "FlightBooksModel" "latest" "I"] ++ wsX10)
def wsX1_columns : List Cond := .code yX1_columns cX1_columns 3 (some .int) :: ([.fieldLink RX1 23 "FlightBooksModel" "fault" "I", .fieldLink RX1 91 "FlightBooksModel" "across" "I", .methodLink RX1 96 yX1_hasRow, .instanceMethod yX1_hasRow, .selects RX1 yX1_hasRow yX1_hasRow, .initialized RX1, .code yX1_hasRow cX1_hasRow 2 (some .boolean), .fieldLink RX1 84 "FlightBooksModel" "charted" "Z", .constant RX1 94 (-100005), .fieldLink RX1 88 "FlightBooksModel" "rows" "I", .constant RX1 95 (-200005), .methodLink RX1 51 yX1_answer, .instanceMethod yX1_answer, .selects RX1 yX1_answer yX1_answer, .code yX1_answer cX1_answer 2 (some .int), .fieldLink RX1 40 "FlightBooksModel" "faults" "I", .fieldLink RX1 43 "FlightBooksModel" "latest" "I"] ++ wsX10)
def wsX1_look : List Cond := .code yX1_look cX1_look 4 (some .int) :: ([.fieldLink RX1 7 "FlightBooksModel" "many" "[I", .fieldLink RX1 19 "FlightBooksModel" "chambers" "I", .fieldLink RX1 75 "FlightBooksModel" "out" "I", .fieldLink RX1 78 "FlightBooksModel" "outLoads" "I", .fieldLink RX1 40 "FlightBooksModel" "faults" "I", .fieldLink RX1 43 "FlightBooksModel" "latest" "I", .constant RX1 50 (-300000)] ++ wsX10)
def wsJ9_max_7cf53 : List Cond := .code yJ9_max_7cf53 cJ9_max_7cf53 2 (some .int) :: ([])
def wsJ9_min_7cf53 : List Cond := .code yJ9_min_7cf53 cJ9_min_7cf53 2 (some .int) :: ([])
def wsL_cell : List Cond := .code yL_cell cL_cell 2 (some .int) :: ([])
def wsL_law_r1 : List Cond := [Cond.classLink RL 7 RX0, Cond.instantiable RX0 10, Cond.initialized RX0, Cond.classLink RL 18 RX1, Cond.instantiable RX1 12, Cond.initialized RX1, Cond.methodLink RL 9 yL_cell, Cond.static yL_cell, Cond.initialized RL, Cond.code yL_cell cL_cell 2 (some .int), Cond.methodLink RL 15 yX0_init, Cond.instanceMethod yX0_init, Cond.code yX0_init cX0_init 2 none, Cond.methodLink RX0 1 objectInit, Cond.instanceMethod objectInit, Cond.code objectInit ⟨#[0xb1]⟩ 1 none, Cond.arrayClass .int, Cond.fieldLink RX0 9 "FlightBooks" "lineCounts" "[I", Cond.classLink RX0 13 "[[I", Cond.fieldLink RX0 15 "FlightBooks" "held" "[[I", Cond.fieldLink RX0 18 "FlightBooks" "places" "[[I", Cond.fieldLink RX0 21 "FlightBooks" "rowCount" "I", Cond.fieldLink RX0 25 "FlightBooks" "columnCount" "I", Cond.fieldLink RX0 28 "FlightBooks" "bargesOut" "I"]
def wsL_law_r2 : List Cond := [Cond.fieldLink RX0 31 "FlightBooks" "eighthsOut" "I", Cond.fieldLink RX0 34 "FlightBooks" "faultCount" "I", Cond.fieldLink RX0 37 "FlightBooks" "latestFault" "I", Cond.fieldLink RX0 44 "FlightBooks" "chamberCount" "I", Cond.methodLink RX0 40 yX0_nearest, Cond.static yX0_nearest, Cond.code yX0_nearest cX0_nearest 3 (some .int), Cond.methodLink RX0 121 Lib.Math.min.name, Cond.static Lib.Math.min.name, Cond.initialized "java/lang/Math", Cond.code Lib.Math.min.name Lib.Math.min.code 2 (some .int), Cond.methodLink RX0 126 Lib.Math.max.name, Cond.static Lib.Math.max.name, Cond.code Lib.Math.max.name Lib.Math.max.code 2 (some .int), Cond.methodLink RX0 47 yJ7_fill_53178, Cond.static yJ7_fill_53178, Cond.initialized RJ7, Cond.code yJ7_fill_53178 cJ7_fill_53178 4 none, Cond.methodLink RL 20 yX1_init, Cond.instanceMethod yX1_init, Cond.code yX1_init cX1_init 3 none, Cond.methodLink RX1 1 objectInit, Cond.fieldLink RX1 7 "FlightBooksModel" "many" "[I", Cond.fieldLink RX1 13 "FlightBooksModel" "cells" "[I"]
def wsL_law_r3 : List Cond := [Cond.fieldLink RX1 16 "FlightBooksModel" "places" "[I", Cond.fieldLink RX1 19 "FlightBooksModel" "chambers" "I", Cond.methodLink RL 21 yX0_keep, Cond.instanceMethod yX0_keep, Cond.selects RX0 yX0_keep yX0_keep, Cond.code yX0_keep cX0_keep 3 (some .int), Cond.constant RX0 57 (-300000), Cond.methodLink RX0 53 yX0_isBook, Cond.static yX0_isBook, Cond.code yX0_isBook cX0_isBook 1 (some .boolean), Cond.methodLink RL 25 yX1_keep, Cond.instanceMethod yX1_keep, Cond.selects RX1 yX1_keep yX1_keep, Cond.code yX1_keep cX1_keep 4 (some .int), Cond.constant RX1 50 (-300000), Cond.methodLink RX1 46 yX1_isBook, Cond.static yX1_isBook, Cond.code yX1_isBook cX1_isBook 1 (some .boolean), Cond.methodLink RL 26 yX0_lose, Cond.instanceMethod yX0_lose, Cond.selects RX0 yX0_lose yX0_lose, Cond.code yX0_lose cX0_lose 2 (some .int), Cond.methodLink RL 30 yX1_lose, Cond.instanceMethod yX1_lose]
def wsL_law_r4 : List Cond := [Cond.selects RX1 yX1_lose yX1_lose, Cond.code yX1_lose cX1_lose 3 (some .int), Cond.methodLink RL 31 yX0_lines, Cond.instanceMethod yX0_lines, Cond.selects RX0 yX0_lines yX0_lines, Cond.code yX0_lines cX0_lines 2 (some .int), Cond.methodLink RX0 58 yX0_endsAtBook, Cond.instanceMethod yX0_endsAtBook, Cond.selects RX0 yX0_endsAtBook yX0_endsAtBook, Cond.code yX0_endsAtBook cX0_endsAtBook 2 (some .boolean), Cond.constant RX0 110 (-100000), Cond.methodLink RX0 111 yX0_ended, Cond.instanceMethod yX0_ended, Cond.selects RX0 yX0_ended yX0_ended, Cond.code yX0_ended cX0_ended 2 (some .boolean), Cond.methodLink RL 34 yX1_lines, Cond.instanceMethod yX1_lines, Cond.selects RX1 yX1_lines yX1_lines, Cond.code yX1_lines cX1_lines 2 (some .int), Cond.constant RX1 26 (-100000), Cond.fieldLink RX1 23 "FlightBooksModel" "fault" "I", Cond.methodLink RX1 51 yX1_answer, Cond.instanceMethod yX1_answer, Cond.selects RX1 yX1_answer yX1_answer]
def wsL_law_r5 : List Cond := [Cond.code yX1_answer cX1_answer 2 (some .int), Cond.fieldLink RX1 40 "FlightBooksModel" "faults" "I", Cond.fieldLink RX1 43 "FlightBooksModel" "latest" "I", Cond.methodLink RL 35 yX0_read, Cond.instanceMethod yX0_read, Cond.selects RX0 yX0_read yX0_read, Cond.code yX0_read cX0_read 3 (some .int), Cond.methodLink RX0 61 yX0_endsAtLine, Cond.instanceMethod yX0_endsAtLine, Cond.selects RX0 yX0_endsAtLine yX0_endsAtLine, Cond.code yX0_endsAtLine cX0_endsAtLine 3 (some .boolean), Cond.constant RX0 114 (-200000), Cond.methodLink RL 38 yX1_read, Cond.instanceMethod yX1_read, Cond.selects RX1 yX1_read yX1_read, Cond.code yX1_read cX1_read 4 (some .int), Cond.methodLink RX1 55 yX1_cell, Cond.instanceMethod yX1_cell, Cond.selects RX1 yX1_cell yX1_cell, Cond.code yX1_cell cX1_cell 3 (some .int), Cond.methodLink RX1 28 yX1_has, Cond.instanceMethod yX1_has, Cond.selects RX1 yX1_has yX1_has, Cond.code yX1_has cX1_has 3 (some .boolean)]
def wsL_law_r6 : List Cond := [Cond.constant RX1 27 (-200000), Cond.methodLink RL 39 yX0_write, Cond.instanceMethod yX0_write, Cond.selects RX0 yX0_write yX0_write, Cond.code yX0_write cX0_write 4 (some .int), Cond.methodLink RX0 65 yX0_isToldLoad, Cond.static yX0_isToldLoad, Cond.code yX0_isToldLoad cX0_isToldLoad 1 (some .boolean), Cond.methodLink RX0 68 yX0_put, Cond.instanceMethod yX0_put, Cond.selects RX0 yX0_put yX0_put, Cond.code yX0_put cX0_put 4 none, Cond.methodLink RX0 86 yX0_cut, Cond.static yX0_cut, Cond.code yX0_cut cX0_cut 2 (some .int), Cond.constant RX0 118 (65535), Cond.constant RX0 119 (-2000000), Cond.constant RX0 120 (2000000), Cond.methodLink RL 43 yX1_write, Cond.instanceMethod yX1_write, Cond.selects RX1 yX1_write yX1_write, Cond.code yX1_write cX1_write 4 (some .int), Cond.methodLink RX1 58 yX1_isLoad, Cond.static yX1_isLoad]
def wsL_law_r7 : List Cond := [Cond.code yX1_isLoad cX1_isLoad 1 (some .boolean), Cond.methodLink RX1 61 yX1_put, Cond.instanceMethod yX1_put, Cond.selects RX1 yX1_put yX1_put, Cond.code yX1_put cX1_put 4 none, Cond.methodLink RX1 36 yX1_cut, Cond.static yX1_cut, Cond.code yX1_cut cX1_cut 3 (some .int), Cond.constant RX1 32 (65535), Cond.constant RX1 33 (65536), Cond.constant RX1 34 (2000000), Cond.constant RX1 35 (-2000000), Cond.methodLink RL 44 yX0_change, Cond.instanceMethod yX0_change, Cond.selects RX0 yX0_change yX0_change, Cond.code yX0_change cX0_change 5 (some .int), Cond.methodLink RX0 72 yX0_changed, Cond.static yX0_changed, Cond.code yX0_changed cX0_changed 5 (some .int), Cond.methodLink RX0 129 yX0_changedGate, Cond.static yX0_changedGate, Cond.code yX0_changedGate cX0_changedGate 3 (some .int), Cond.methodLink RL 48 yX1_change, Cond.instanceMethod yX1_change]
def wsL_law_r8 : List Cond := [Cond.selects RX1 yX1_change yX1_change, Cond.code yX1_change cX1_change 10 (some .int), Cond.methodLink RX1 65 yX1_gate, Cond.static yX1_gate, Cond.code yX1_gate cX1_gate 4 (some .int), Cond.methodLink RL 49 yX0_tally, Cond.instanceMethod yX0_tally, Cond.selects RX0 yX0_tally yX0_tally, Cond.code yX0_tally cX0_tally 4 (some .int), Cond.methodLink RL 52 yX1_tally, Cond.instanceMethod yX1_tally, Cond.selects RX1 yX1_tally yX1_tally, Cond.code yX1_tally cX1_tally 4 (some .int), Cond.methodLink RL 53 yX0_copy, Cond.instanceMethod yX0_copy, Cond.selects RX0 yX0_copy yX0_copy, Cond.code yX0_copy cX0_copy 4 (some .int), Cond.methodLink RX0 76 yX0_told, Cond.static yX0_told, Cond.code yX0_told cX0_told 2 (some .int), Cond.methodLink RL 56 yX1_copy, Cond.instanceMethod yX1_copy, Cond.selects RX1 yX1_copy yX1_copy, Cond.code yX1_copy cX1_copy 5 (some .int)]
def wsL_law_r9 : List Cond := [Cond.methodLink RL 57 yX0_sluice, Cond.instanceMethod yX0_sluice, Cond.selects RX0 yX0_sluice yX0_sluice, Cond.code yX0_sluice cX0_sluice 3 (some .int), Cond.methodLink RX0 80 yX0_isChamber, Cond.instanceMethod yX0_isChamber, Cond.selects RX0 yX0_isChamber yX0_isChamber, Cond.code yX0_isChamber cX0_isChamber 2 (some .boolean), Cond.methodLink RX0 83 yX0_isLast, Cond.instanceMethod yX0_isLast, Cond.selects RX0 yX0_isLast yX0_isLast, Cond.code yX0_isLast cX0_isLast 2 (some .boolean), Cond.methodLink RL 60 yX1_sluice, Cond.instanceMethod yX1_sluice, Cond.selects RX1 yX1_sluice yX1_sluice, Cond.code yX1_sluice cX1_sluice 4 (some .int), Cond.methodLink RX1 69 yX1_isChamber, Cond.instanceMethod yX1_isChamber, Cond.selects RX1 yX1_isChamber yX1_isChamber, Cond.code yX1_isChamber cX1_isChamber 2 (some .boolean), Cond.methodLink RX1 72 yX1_more, Cond.instanceMethod yX1_more, Cond.selects RX1 yX1_more yX1_more, Cond.code yX1_more cX1_more 4 none]
def wsL_law_r10 : List Cond := [Cond.methodLink RL 61 yX0_open, Cond.instanceMethod yX0_open, Cond.selects RX0 yX0_open yX0_open, Cond.code yX0_open cX0_open 3 (some .int), Cond.methodLink RL 64 yX1_open, Cond.instanceMethod yX1_open, Cond.selects RX1 yX1_open yX1_open, Cond.code yX1_open cX1_open 4 (some .int), Cond.methodLink RL 65 yX0_shut, Cond.instanceMethod yX0_shut, Cond.selects RX0 yX0_shut yX0_shut, Cond.code yX0_shut cX0_shut 3 (some .int), Cond.methodLink RL 68 yX1_shut, Cond.instanceMethod yX1_shut, Cond.selects RX1 yX1_shut yX1_shut, Cond.code yX1_shut cX1_shut 3 (some .int), Cond.methodLink RL 69 yX0_enter, Cond.instanceMethod yX0_enter, Cond.selects RX0 yX0_enter yX0_enter, Cond.code yX0_enter cX0_enter 3 (some .int), Cond.methodLink RX0 89 yX0_endsAtArrival, Cond.instanceMethod yX0_endsAtArrival, Cond.selects RX0 yX0_endsAtArrival yX0_endsAtArrival, Cond.code yX0_endsAtArrival cX0_endsAtArrival 4 (some .boolean)]
def wsL_law_r11 : List Cond := [Cond.methodLink RL 72 yX1_enter, Cond.instanceMethod yX1_enter, Cond.selects RX1 yX1_enter yX1_enter, Cond.code yX1_enter cX1_enter 6 (some .int), Cond.methodLink RL 73 yX0_pass, Cond.instanceMethod yX0_pass, Cond.selects RX0 yX0_pass yX0_pass, Cond.code yX0_pass cX0_pass 2 (some .int), Cond.methodLink RX0 93 yX0_goOut, Cond.instanceMethod yX0_goOut, Cond.selects RX0 yX0_goOut yX0_goOut, Cond.code yX0_goOut cX0_goOut 2 (some .int), Cond.methodLink RX0 132 yX0_leave, Cond.instanceMethod yX0_leave, Cond.selects RX0 yX0_leave yX0_leave, Cond.code yX0_leave cX0_leave 3 (some .int), Cond.methodLink RX0 97 yX0_goOn, Cond.instanceMethod yX0_goOn, Cond.selects RX0 yX0_goOn yX0_goOn, Cond.code yX0_goOn cX0_goOn 3 (some .int), Cond.methodLink RL 76 yX1_pass, Cond.instanceMethod yX1_pass, Cond.selects RX1 yX1_pass yX1_pass, Cond.code yX1_pass cX1_pass 6 (some .int)]
def wsL_law_r12 : List Cond := [Cond.fieldLink RX1 75 "FlightBooksModel" "out" "I", Cond.fieldLink RX1 78 "FlightBooksModel" "outLoads" "I", Cond.methodLink RX1 81 yX1_moved, Cond.instanceMethod yX1_moved, Cond.selects RX1 yX1_moved yX1_moved, Cond.code yX1_moved cX1_moved 4 (some .int), Cond.methodLink RL 77 yX0_survey, Cond.instanceMethod yX0_survey, Cond.selects RX0 yX0_survey yX0_survey, Cond.code yX0_survey cX0_survey 4 (some .int), Cond.methodLink RL 80 yX1_survey, Cond.instanceMethod yX1_survey, Cond.selects RX1 yX1_survey yX1_survey, Cond.code yX1_survey cX1_survey 4 (some .int), Cond.fieldLink RX1 84 "FlightBooksModel" "charted" "Z", Cond.fieldLink RX1 88 "FlightBooksModel" "rows" "I", Cond.fieldLink RX1 91 "FlightBooksModel" "across" "I", Cond.methodLink RL 81 yX0_note, Cond.instanceMethod yX0_note, Cond.selects RX0 yX0_note yX0_note, Cond.code yX0_note cX0_note 5 (some .int), Cond.methodLink RX0 100 yX0_endsAtPlace, Cond.instanceMethod yX0_endsAtPlace, Cond.selects RX0 yX0_endsAtPlace yX0_endsAtPlace]
def wsL_law_r13 : List Cond := [Cond.code yX0_endsAtPlace cX0_endsAtPlace 3 (some .boolean), Cond.constant RX0 117 (-200006), Cond.methodLink RX0 103 yX0_endsAtRow, Cond.instanceMethod yX0_endsAtRow, Cond.selects RX0 yX0_endsAtRow yX0_endsAtRow, Cond.code yX0_endsAtRow cX0_endsAtRow 2 (some .boolean), Cond.constant RX0 115 (-100005), Cond.constant RX0 116 (-200005), Cond.methodLink RL 84 yX1_note, Cond.instanceMethod yX1_note, Cond.selects RX1 yX1_note yX1_note, Cond.code yX1_note cX1_note 6 (some .int), Cond.methodLink RX1 100 yX1_hasPlace, Cond.instanceMethod yX1_hasPlace, Cond.selects RX1 yX1_hasPlace yX1_hasPlace, Cond.code yX1_hasPlace cX1_hasPlace 3 (some .boolean), Cond.constant RX1 99 (-200006), Cond.methodLink RX1 96 yX1_hasRow, Cond.instanceMethod yX1_hasRow, Cond.selects RX1 yX1_hasRow yX1_hasRow, Cond.code yX1_hasRow cX1_hasRow 2 (some .boolean), Cond.constant RX1 94 (-100005), Cond.constant RX1 95 (-200005), Cond.methodLink RL 85 yX0_chart]
def wsL_law_r14 : List Cond := [Cond.instanceMethod yX0_chart, Cond.selects RX0 yX0_chart yX0_chart, Cond.code yX0_chart cX0_chart 3 (some .int), Cond.methodLink RL 88 yX1_chart, Cond.instanceMethod yX1_chart, Cond.selects RX1 yX1_chart yX1_chart, Cond.code yX1_chart cX1_chart 4 (some .int), Cond.methodLink RL 89 yX0_columns, Cond.instanceMethod yX0_columns, Cond.selects RX0 yX0_columns yX0_columns, Cond.code yX0_columns cX0_columns 2 (some .int), Cond.methodLink RL 92 yX1_columns, Cond.instanceMethod yX1_columns, Cond.selects RX1 yX1_columns yX1_columns, Cond.code yX1_columns cX1_columns 3 (some .int), Cond.methodLink RL 93 yX0_look, Cond.instanceMethod yX0_look, Cond.selects RX0 yX0_look yX0_look, Cond.code yX0_look cX0_look 2 (some .int), Cond.methodLink RX0 106 yX0_booksKept, Cond.instanceMethod yX0_booksKept, Cond.selects RX0 yX0_booksKept yX0_booksKept, Cond.code yX0_booksKept cX0_booksKept 3 (some .int), Cond.methodLink RL 96 yX1_look]
def wsL_law_r15 : List Cond := [Cond.instanceMethod yX1_look, Cond.selects RX1 yX1_look yX1_look, Cond.code yX1_look cX1_look 4 (some .int)]
def wsL_law : List Cond := (wsL_law_r1 ++ (wsL_law_r2 ++ (wsL_law_r3 ++ (wsL_law_r4 ++ (wsL_law_r5 ++ (wsL_law_r6 ++ (wsL_law_r7 ++ (wsL_law_r8 ++ (wsL_law_r9 ++ (wsL_law_r10 ++ (wsL_law_r11 ++ (wsL_law_r12 ++ (wsL_law_r13 ++ (wsL_law_r14 ++ wsL_law_r15)))))))))))))) ++ wsX00 ++ wsX10 ++ ([] : List Cond)
set_option maxRecDepth 20000 in
theorem wsL_law_in : ∀ w ∈ wsL_law, w ∈ lw_tbl := fun w h => (goodIn_p wsL_law [234, 31, 34, 39, 42, 45, 48, 239, 84, 87, 281, 284, 92, 289, 96, 100, 105, 293, 298, 109, 113, 302, 306, 310, 118, 121, 125, 128, 315, 318, 322, 325, 135, 138, 141, 333, 336, 145, 340, 149, 152, 344, 156, 160, 164, 348, 352, 356, 168, 360, 172, 364, 176, 180, 368, 184, 188, 192, 196, 372, 376, 200, 380, 204, 208, 212, 384, 388, 392, 219, 399, 223, 403, 227, 231, 407] (by decide +kernel) (by decide +kernel) w h).1
theorem inlX0 : ∀ w ∈ wsX00, w ∈ wsL_law := fun _ h => List.mem_append_left _ (List.mem_append_left _ (List.mem_append_right _ h))
theorem inX0 : ∀ w ∈ wsX00, w ∈ lw_tbl := fun w h => wsL_law_in w (inlX0 w h)
theorem inlX1 : ∀ w ∈ wsX10, w ∈ wsL_law := fun _ h => List.mem_append_left _ (List.mem_append_right _ h)
theorem inX1 : ∀ w ∈ wsX10, w ∈ lw_tbl := fun w h => wsL_law_in w (inlX1 w h)
theorem inJ9 : ∀ w ∈ wsJ90, w ∈ lw_tbl := by decide +kernel
theorem inJ7 : ∀ w ∈ wsJ70, w ∈ lw_tbl := by decide +kernel
end
section
set_option maxRecDepth 20000 in
theorem ggX0_init_X0_nearest : GoodIn wsX0_init wsX0_nearest := goodIn_r _ [19, 20, 21, 22, 23, 24, 25, 26] (by decide +kernel) (by decide +kernel)
set_option maxRecDepth 20000 in
theorem gX0_init_X0_nearest : GoodIn wsX0_init (va_wsS RX0 40 yX0_nearest wsX0_nearest) := goodIn_app (goodIn_of _ (by decide +kernel)) ggX0_init_X0_nearest
set_option maxRecDepth 20000 in
theorem ggX0_init_J7_fill_53178 : GoodIn wsX0_init wsJ7_fill_53178 := goodIn_r _ [30] (by decide +kernel) (by decide +kernel)
set_option maxRecDepth 20000 in
theorem gX0_init_J7_fill_53178 : GoodIn wsX0_init (va_wsS RX0 47 yJ7_fill_53178 wsJ7_fill_53178) := goodIn_app (goodIn_of _ (by decide +kernel)) ggX0_init_J7_fill_53178
theorem dX0_init_0 : decode cX0_init 0 = .ok (.aload_n 0, 1) := by decide +kernel
theorem dX0_init_1 : decode cX0_init 1 = .ok (.invokespecial 1, 3) := by decide +kernel
theorem dX0_init_4 : decode cX0_init 4 = .ok (.aload_n 0, 1) := by decide +kernel
theorem dX0_init_5 : decode cX0_init 5 = .ok (.iconst 5, 1) := by decide +kernel
theorem dX0_init_6 : decode cX0_init 6 = .ok (.newarray .int, 2) := by decide +kernel
theorem dX0_init_8 : decode cX0_init 8 = .ok (.putfield 9, 3) := by decide +kernel
theorem dX0_init_11 : decode cX0_init 11 = .ok (.aload_n 0, 1) := by decide +kernel
theorem dX0_init_12 : decode cX0_init 12 = .ok (.iconst 5, 1) := by decide +kernel
theorem dX0_init_13 : decode cX0_init 13 = .ok (.bipush 24, 2) := by decide +kernel
theorem dX0_init_15 : decode cX0_init 15 = .ok (.multianewarray 13 2, 4) := by decide +kernel
theorem dX0_init_19 : decode cX0_init 19 = .ok (.putfield 15, 3) := by decide +kernel
theorem dX0_init_22 : decode cX0_init 22 = .ok (.aload_n 0, 1) := by decide +kernel
theorem dX0_init_23 : decode cX0_init 23 = .ok (.bipush 24, 2) := by decide +kernel
theorem dX0_init_25 : decode cX0_init 25 = .ok (.bipush 24, 2) := by decide +kernel
theorem dX0_init_27 : decode cX0_init 27 = .ok (.multianewarray 13 2, 4) := by decide +kernel
theorem dX0_init_31 : decode cX0_init 31 = .ok (.putfield 18, 3) := by decide +kernel
theorem dX0_init_34 : decode cX0_init 34 = .ok (.aload_n 0, 1) := by decide +kernel
theorem dX0_init_35 : decode cX0_init 35 = .ok (.iconst (-1), 1) := by decide +kernel
theorem dX0_init_36 : decode cX0_init 36 = .ok (.putfield 21, 3) := by decide +kernel
theorem dX0_init_39 : decode cX0_init 39 = .ok (.aload_n 0, 1) := by decide +kernel
theorem dX0_init_40 : decode cX0_init 40 = .ok (.iconst 0, 1) := by decide +kernel
theorem dX0_init_41 : decode cX0_init 41 = .ok (.putfield 25, 3) := by decide +kernel
theorem dX0_init_44 : decode cX0_init 44 = .ok (.aload_n 0, 1) := by decide +kernel
theorem dX0_init_45 : decode cX0_init 45 = .ok (.iconst 0, 1) := by decide +kernel
theorem dX0_init_46 : decode cX0_init 46 = .ok (.putfield 28, 3) := by decide +kernel
theorem dX0_init_49 : decode cX0_init 49 = .ok (.aload_n 0, 1) := by decide +kernel
theorem dX0_init_50 : decode cX0_init 50 = .ok (.iconst 0, 1) := by decide +kernel
theorem dX0_init_51 : decode cX0_init 51 = .ok (.putfield 31, 3) := by decide +kernel
theorem dX0_init_54 : decode cX0_init 54 = .ok (.aload_n 0, 1) := by decide +kernel
theorem dX0_init_55 : decode cX0_init 55 = .ok (.iconst 0, 1) := by decide +kernel
theorem dX0_init_56 : decode cX0_init 56 = .ok (.putfield 34, 3) := by decide +kernel
theorem dX0_init_59 : decode cX0_init 59 = .ok (.aload_n 0, 1) := by decide +kernel
theorem dX0_init_60 : decode cX0_init 60 = .ok (.iconst 0, 1) := by decide +kernel
theorem dX0_init_61 : decode cX0_init 61 = .ok (.putfield 37, 3) := by decide +kernel
theorem dX0_init_64 : decode cX0_init 64 = .ok (.aload_n 0, 1) := by decide +kernel
theorem dX0_init_65 : decode cX0_init 65 = .ok (.iload_n 1, 1) := by decide +kernel
theorem dX0_init_66 : decode cX0_init 66 = .ok (.iconst 1, 1) := by decide +kernel
theorem dX0_init_67 : decode cX0_init 67 = .ok (.bipush 24, 2) := by decide +kernel
theorem dX0_init_69 : decode cX0_init 69 = .ok (.invokestatic 40, 3) := by decide +kernel
theorem dX0_init_72 : decode cX0_init 72 = .ok (.putfield 44, 3) := by decide +kernel
theorem dX0_init_75 : decode cX0_init 75 = .ok (.aload_n 0, 1) := by decide +kernel
theorem dX0_init_76 : decode cX0_init 76 = .ok (.getfield 9, 3) := by decide +kernel
theorem dX0_init_79 : decode cX0_init 79 = .ok (.iconst (-1), 1) := by decide +kernel
theorem dX0_init_80 : decode cX0_init 80 = .ok (.invokestatic 47, 3) := by decide +kernel
theorem dX0_init_83 : decode cX0_init 83 = .ok (.return_, 1) := by decide +kernel
set_option maxRecDepth 20000 in
theorem ggX0_keep_X0_isBook : GoodIn wsX0_keep wsX0_isBook := goodIn_r _ [7] (by decide +kernel) (by decide +kernel)
set_option maxRecDepth 20000 in
theorem gX0_keep_X0_isBook : GoodIn wsX0_keep (va_wsS RX0 53 yX0_isBook wsX0_isBook) := goodIn_app (goodIn_of _ (by decide +kernel)) ggX0_keep_X0_isBook
set_option maxRecDepth 20000 in
theorem ggX0_keep_J7_fill_53178 : GoodIn wsX0_keep wsJ7_fill_53178 := goodIn_r _ [11] (by decide +kernel) (by decide +kernel)
set_option maxRecDepth 20000 in
theorem gX0_keep_J7_fill_53178 : GoodIn wsX0_keep (va_wsS RX0 47 yJ7_fill_53178 wsJ7_fill_53178) := goodIn_app (goodIn_of _ (by decide +kernel)) ggX0_keep_J7_fill_53178
theorem dX0_keep_0 : decode cX0_keep 0 = .ok (.iload_n 1, 1) := by decide +kernel
theorem dX0_keep_1 : decode cX0_keep 1 = .ok (.invokestatic 53, 3) := by decide +kernel
theorem dX0_keep_4 : decode cX0_keep 4 = .ok (.ifCond .ne 6, 3) := by decide +kernel
theorem dX0_keep_7 : decode cX0_keep 7 = .ok (.ldc 57, 2) := by decide +kernel
theorem dX0_keep_9 : decode cX0_keep 9 = .ok (.ireturn, 1) := by decide +kernel
theorem dX0_keep_10 : decode cX0_keep 10 = .ok (.iload_n 2, 1) := by decide +kernel
theorem dX0_keep_11 : decode cX0_keep 11 = .ok (.bipush 24, 2) := by decide +kernel
theorem dX0_keep_13 : decode cX0_keep 13 = .ok (.if_icmp .le 6, 3) := by decide +kernel
theorem dX0_keep_16 : decode cX0_keep 16 = .ok (.bipush (-2), 2) := by decide +kernel
theorem dX0_keep_18 : decode cX0_keep 18 = .ok (.ireturn, 1) := by decide +kernel
theorem dX0_keep_19 : decode cX0_keep 19 = .ok (.iload_n 2, 1) := by decide +kernel
theorem dX0_keep_20 : decode cX0_keep 20 = .ok (.ifCond .ge 6, 3) := by decide +kernel
theorem dX0_keep_23 : decode cX0_keep 23 = .ok (.bipush (-3), 2) := by decide +kernel
theorem dX0_keep_25 : decode cX0_keep 25 = .ok (.ireturn, 1) := by decide +kernel
theorem dX0_keep_26 : decode cX0_keep 26 = .ok (.aload_n 0, 1) := by decide +kernel
theorem dX0_keep_27 : decode cX0_keep 27 = .ok (.getfield 15, 3) := by decide +kernel
theorem dX0_keep_30 : decode cX0_keep 30 = .ok (.iload_n 1, 1) := by decide +kernel
theorem dX0_keep_31 : decode cX0_keep 31 = .ok (.aaload, 1) := by decide +kernel
theorem dX0_keep_32 : decode cX0_keep 32 = .ok (.iconst 0, 1) := by decide +kernel
theorem dX0_keep_33 : decode cX0_keep 33 = .ok (.invokestatic 47, 3) := by decide +kernel
theorem dX0_keep_36 : decode cX0_keep 36 = .ok (.aload_n 0, 1) := by decide +kernel
theorem dX0_keep_37 : decode cX0_keep 37 = .ok (.getfield 9, 3) := by decide +kernel
theorem dX0_keep_40 : decode cX0_keep 40 = .ok (.iload_n 1, 1) := by decide +kernel
theorem dX0_keep_41 : decode cX0_keep 41 = .ok (.iload_n 2, 1) := by decide +kernel
theorem dX0_keep_42 : decode cX0_keep 42 = .ok (.iastore, 1) := by decide +kernel
theorem dX0_keep_43 : decode cX0_keep 43 = .ok (.iconst 0, 1) := by decide +kernel
theorem dX0_keep_44 : decode cX0_keep 44 = .ok (.ireturn, 1) := by decide +kernel
set_option maxRecDepth 20000 in
theorem ggX0_lose_X0_isBook : GoodIn wsX0_lose wsX0_isBook := goodIn_r _ [6] (by decide +kernel) (by decide +kernel)
set_option maxRecDepth 20000 in
theorem gX0_lose_X0_isBook : GoodIn wsX0_lose (va_wsS RX0 53 yX0_isBook wsX0_isBook) := goodIn_app (goodIn_of _ (by decide +kernel)) ggX0_lose_X0_isBook
theorem dX0_lose_0 : decode cX0_lose 0 = .ok (.iload_n 1, 1) := by decide +kernel
theorem dX0_lose_1 : decode cX0_lose 1 = .ok (.invokestatic 53, 3) := by decide +kernel
theorem dX0_lose_4 : decode cX0_lose 4 = .ok (.ifCond .ne 6, 3) := by decide +kernel
theorem dX0_lose_7 : decode cX0_lose 7 = .ok (.ldc 57, 2) := by decide +kernel
theorem dX0_lose_9 : decode cX0_lose 9 = .ok (.ireturn, 1) := by decide +kernel
theorem dX0_lose_10 : decode cX0_lose 10 = .ok (.aload_n 0, 1) := by decide +kernel
theorem dX0_lose_11 : decode cX0_lose 11 = .ok (.getfield 9, 3) := by decide +kernel
theorem dX0_lose_14 : decode cX0_lose 14 = .ok (.iload_n 1, 1) := by decide +kernel
theorem dX0_lose_15 : decode cX0_lose 15 = .ok (.iaload, 1) := by decide +kernel
theorem dX0_lose_16 : decode cX0_lose 16 = .ok (.iconst (-1), 1) := by decide +kernel
theorem dX0_lose_17 : decode cX0_lose 17 = .ok (.if_icmp .ne 5, 3) := by decide +kernel
theorem dX0_lose_20 : decode cX0_lose 20 = .ok (.iconst 0, 1) := by decide +kernel
theorem dX0_lose_21 : decode cX0_lose 21 = .ok (.ireturn, 1) := by decide +kernel
theorem dX0_lose_22 : decode cX0_lose 22 = .ok (.aload_n 0, 1) := by decide +kernel
theorem dX0_lose_23 : decode cX0_lose 23 = .ok (.getfield 9, 3) := by decide +kernel
theorem dX0_lose_26 : decode cX0_lose 26 = .ok (.iload_n 1, 1) := by decide +kernel
theorem dX0_lose_27 : decode cX0_lose 27 = .ok (.iconst (-1), 1) := by decide +kernel
theorem dX0_lose_28 : decode cX0_lose 28 = .ok (.iastore, 1) := by decide +kernel
theorem dX0_lose_29 : decode cX0_lose 29 = .ok (.iconst 1, 1) := by decide +kernel
theorem dX0_lose_30 : decode cX0_lose 30 = .ok (.ireturn, 1) := by decide +kernel
set_option maxRecDepth 20000 in
theorem ggX0_lines_X0_isBook : GoodIn wsX0_lines wsX0_isBook := goodIn_r _ [7] (by decide +kernel) (by decide +kernel)
set_option maxRecDepth 20000 in
theorem gX0_lines_X0_isBook : GoodIn wsX0_lines (va_wsS RX0 53 yX0_isBook wsX0_isBook) := goodIn_app (goodIn_of _ (by decide +kernel)) ggX0_lines_X0_isBook
set_option maxRecDepth 20000 in
theorem ggX0_lines_X0_endsAtBook : GoodIn wsX0_lines wsX0_endsAtBook := goodIn_r _ [11, 3, 12, 13, 14, 15, 6, 16, 17, 2, 18, 19, 20, 21, 22, 23, 24, 25, 26, 27] (by decide +kernel) (by decide +kernel)
set_option maxRecDepth 20000 in
theorem gX0_lines_X0_endsAtBook : GoodIn wsX0_lines (wsV RX0 58 RX0 yX0_endsAtBook wsX0_endsAtBook) := goodIn_app (goodIn_of _ (by decide +kernel)) ggX0_lines_X0_endsAtBook
theorem dX0_lines_0 : decode cX0_lines 0 = .ok (.iload_n 1, 1) := by decide +kernel
theorem dX0_lines_1 : decode cX0_lines 1 = .ok (.invokestatic 53, 3) := by decide +kernel
theorem dX0_lines_4 : decode cX0_lines 4 = .ok (.ifCond .ne 6, 3) := by decide +kernel
theorem dX0_lines_7 : decode cX0_lines 7 = .ok (.ldc 57, 2) := by decide +kernel
theorem dX0_lines_9 : decode cX0_lines 9 = .ok (.ireturn, 1) := by decide +kernel
theorem dX0_lines_10 : decode cX0_lines 10 = .ok (.aload_n 0, 1) := by decide +kernel
theorem dX0_lines_11 : decode cX0_lines 11 = .ok (.iload_n 1, 1) := by decide +kernel
theorem dX0_lines_12 : decode cX0_lines 12 = .ok (.invokevirtual 58, 3) := by decide +kernel
theorem dX0_lines_15 : decode cX0_lines 15 = .ok (.ifCond .eq 8, 3) := by decide +kernel
theorem dX0_lines_18 : decode cX0_lines 18 = .ok (.aload_n 0, 1) := by decide +kernel
theorem dX0_lines_19 : decode cX0_lines 19 = .ok (.getfield 37, 3) := by decide +kernel
theorem dX0_lines_22 : decode cX0_lines 22 = .ok (.ireturn, 1) := by decide +kernel
theorem dX0_lines_23 : decode cX0_lines 23 = .ok (.aload_n 0, 1) := by decide +kernel
theorem dX0_lines_24 : decode cX0_lines 24 = .ok (.getfield 9, 3) := by decide +kernel
theorem dX0_lines_27 : decode cX0_lines 27 = .ok (.iload_n 1, 1) := by decide +kernel
theorem dX0_lines_28 : decode cX0_lines 28 = .ok (.iaload, 1) := by decide +kernel
theorem dX0_lines_29 : decode cX0_lines 29 = .ok (.ireturn, 1) := by decide +kernel
set_option maxRecDepth 20000 in
theorem ggX0_read_X0_isBook : GoodIn wsX0_read wsX0_isBook := goodIn_r _ [7] (by decide +kernel) (by decide +kernel)
set_option maxRecDepth 20000 in
theorem gX0_read_X0_isBook : GoodIn wsX0_read (va_wsS RX0 53 yX0_isBook wsX0_isBook) := goodIn_app (goodIn_of _ (by decide +kernel)) ggX0_read_X0_isBook
set_option maxRecDepth 20000 in
theorem ggX0_read_X0_endsAtLine : GoodIn wsX0_read wsX0_endsAtLine := goodIn_r _ [11, 12, 13, 14, 15, 16, 6, 17, 18, 19, 20, 21, 22, 23, 2, 24, 25, 26, 27, 28, 29, 30, 31, 32, 33] (by decide +kernel) (by decide +kernel)
set_option maxRecDepth 20000 in
theorem gX0_read_X0_endsAtLine : GoodIn wsX0_read (wsV RX0 61 RX0 yX0_endsAtLine wsX0_endsAtLine) := goodIn_app (goodIn_of _ (by decide +kernel)) ggX0_read_X0_endsAtLine
theorem dX0_read_0 : decode cX0_read 0 = .ok (.iload_n 1, 1) := by decide +kernel
theorem dX0_read_1 : decode cX0_read 1 = .ok (.invokestatic 53, 3) := by decide +kernel
theorem dX0_read_4 : decode cX0_read 4 = .ok (.ifCond .ne 6, 3) := by decide +kernel
theorem dX0_read_7 : decode cX0_read 7 = .ok (.ldc 57, 2) := by decide +kernel
theorem dX0_read_9 : decode cX0_read 9 = .ok (.ireturn, 1) := by decide +kernel
theorem dX0_read_10 : decode cX0_read 10 = .ok (.aload_n 0, 1) := by decide +kernel
theorem dX0_read_11 : decode cX0_read 11 = .ok (.iload_n 1, 1) := by decide +kernel
theorem dX0_read_12 : decode cX0_read 12 = .ok (.iload_n 2, 1) := by decide +kernel
theorem dX0_read_13 : decode cX0_read 13 = .ok (.invokevirtual 61, 3) := by decide +kernel
theorem dX0_read_16 : decode cX0_read 16 = .ok (.ifCond .eq 8, 3) := by decide +kernel
theorem dX0_read_19 : decode cX0_read 19 = .ok (.aload_n 0, 1) := by decide +kernel
theorem dX0_read_20 : decode cX0_read 20 = .ok (.getfield 37, 3) := by decide +kernel
theorem dX0_read_23 : decode cX0_read 23 = .ok (.ireturn, 1) := by decide +kernel
theorem dX0_read_24 : decode cX0_read 24 = .ok (.aload_n 0, 1) := by decide +kernel
theorem dX0_read_25 : decode cX0_read 25 = .ok (.getfield 15, 3) := by decide +kernel
theorem dX0_read_28 : decode cX0_read 28 = .ok (.iload_n 1, 1) := by decide +kernel
theorem dX0_read_29 : decode cX0_read 29 = .ok (.aaload, 1) := by decide +kernel
theorem dX0_read_30 : decode cX0_read 30 = .ok (.iload_n 2, 1) := by decide +kernel
theorem dX0_read_31 : decode cX0_read 31 = .ok (.iaload, 1) := by decide +kernel
theorem dX0_read_32 : decode cX0_read 32 = .ok (.ireturn, 1) := by decide +kernel
set_option maxRecDepth 20000 in
theorem ggX0_write_X0_isBook : GoodIn wsX0_write wsX0_isBook := goodIn_r _ [6] (by decide +kernel) (by decide +kernel)
set_option maxRecDepth 20000 in
theorem gX0_write_X0_isBook : GoodIn wsX0_write (va_wsS RX0 53 yX0_isBook wsX0_isBook) := goodIn_app (goodIn_of _ (by decide +kernel)) ggX0_write_X0_isBook
set_option maxRecDepth 20000 in
theorem ggX0_write_X0_isToldLoad : GoodIn wsX0_write wsX0_isToldLoad := goodIn_r _ [9] (by decide +kernel) (by decide +kernel)
set_option maxRecDepth 20000 in
theorem gX0_write_X0_isToldLoad : GoodIn wsX0_write (va_wsS RX0 65 yX0_isToldLoad wsX0_isToldLoad) := goodIn_app (goodIn_of _ (by decide +kernel)) ggX0_write_X0_isToldLoad
set_option maxRecDepth 20000 in
theorem ggX0_write_X0_endsAtLine : GoodIn wsX0_write wsX0_endsAtLine := goodIn_r _ [13, 14, 15, 16, 17, 18, 5, 19, 20, 21, 22, 23, 24, 25, 2, 47, 48, 49, 50, 51, 52, 53, 54, 55, 56] (by decide +kernel) (by decide +kernel)
set_option maxRecDepth 20000 in
theorem gX0_write_X0_endsAtLine : GoodIn wsX0_write (wsV RX0 61 RX0 yX0_endsAtLine wsX0_endsAtLine) := goodIn_app (goodIn_of _ (by decide +kernel)) ggX0_write_X0_endsAtLine
set_option maxRecDepth 20000 in
theorem ggX0_write_X0_put : GoodIn wsX0_write wsX0_put := goodIn_r _ [29, 30, 31, 32, 5, 33, 34, 35, 36, 37, 38, 39, 40, 41, 42, 43, 44, 45, 46, 47, 48, 49, 50, 51, 52, 53, 54, 55, 56] (by decide +kernel) (by decide +kernel)
set_option maxRecDepth 20000 in
theorem gX0_write_X0_put : GoodIn wsX0_write (wsV RX0 68 RX0 yX0_put wsX0_put) := goodIn_app (goodIn_of _ (by decide +kernel)) ggX0_write_X0_put
theorem dX0_write_0 : decode cX0_write 0 = .ok (.iload_n 1, 1) := by decide +kernel
theorem dX0_write_1 : decode cX0_write 1 = .ok (.invokestatic 53, 3) := by decide +kernel
theorem dX0_write_4 : decode cX0_write 4 = .ok (.ifCond .eq 15, 3) := by decide +kernel
theorem dX0_write_7 : decode cX0_write 7 = .ok (.iload_n 1, 1) := by decide +kernel
theorem dX0_write_8 : decode cX0_write 8 = .ok (.iconst 2, 1) := by decide +kernel
theorem dX0_write_9 : decode cX0_write 9 = .ok (.if_icmp .ne 13, 3) := by decide +kernel
theorem dX0_write_12 : decode cX0_write 12 = .ok (.iload_n 3, 1) := by decide +kernel
theorem dX0_write_13 : decode cX0_write 13 = .ok (.invokestatic 65, 3) := by decide +kernel
theorem dX0_write_16 : decode cX0_write 16 = .ok (.ifCond .ne 6, 3) := by decide +kernel
theorem dX0_write_19 : decode cX0_write 19 = .ok (.ldc 57, 2) := by decide +kernel
theorem dX0_write_21 : decode cX0_write 21 = .ok (.ireturn, 1) := by decide +kernel
theorem dX0_write_22 : decode cX0_write 22 = .ok (.aload_n 0, 1) := by decide +kernel
theorem dX0_write_23 : decode cX0_write 23 = .ok (.iload_n 1, 1) := by decide +kernel
theorem dX0_write_24 : decode cX0_write 24 = .ok (.iload_n 2, 1) := by decide +kernel
theorem dX0_write_25 : decode cX0_write 25 = .ok (.invokevirtual 61, 3) := by decide +kernel
theorem dX0_write_28 : decode cX0_write 28 = .ok (.ifCond .eq 8, 3) := by decide +kernel
theorem dX0_write_31 : decode cX0_write 31 = .ok (.aload_n 0, 1) := by decide +kernel
theorem dX0_write_32 : decode cX0_write 32 = .ok (.getfield 37, 3) := by decide +kernel
theorem dX0_write_35 : decode cX0_write 35 = .ok (.ireturn, 1) := by decide +kernel
theorem dX0_write_36 : decode cX0_write 36 = .ok (.aload_n 0, 1) := by decide +kernel
theorem dX0_write_37 : decode cX0_write 37 = .ok (.iload_n 1, 1) := by decide +kernel
theorem dX0_write_38 : decode cX0_write 38 = .ok (.iload_n 2, 1) := by decide +kernel
theorem dX0_write_39 : decode cX0_write 39 = .ok (.iload_n 3, 1) := by decide +kernel
theorem dX0_write_40 : decode cX0_write 40 = .ok (.invokevirtual 68, 3) := by decide +kernel
theorem dX0_write_43 : decode cX0_write 43 = .ok (.iconst 0, 1) := by decide +kernel
theorem dX0_write_44 : decode cX0_write 44 = .ok (.ireturn, 1) := by decide +kernel
set_option maxRecDepth 20000 in
theorem ggX0_change_X0_isBook : GoodIn wsX0_change wsX0_isBook := goodIn_r _ [7] (by decide +kernel) (by decide +kernel)
set_option maxRecDepth 20000 in
theorem gX0_change_X0_isBook : GoodIn wsX0_change (va_wsS RX0 53 yX0_isBook wsX0_isBook) := goodIn_app (goodIn_of _ (by decide +kernel)) ggX0_change_X0_isBook
set_option maxRecDepth 20000 in
theorem ggX0_change_X0_isToldLoad : GoodIn wsX0_change wsX0_isToldLoad := goodIn_r _ [10] (by decide +kernel) (by decide +kernel)
set_option maxRecDepth 20000 in
theorem gX0_change_X0_isToldLoad : GoodIn wsX0_change (va_wsS RX0 65 yX0_isToldLoad wsX0_isToldLoad) := goodIn_app (goodIn_of _ (by decide +kernel)) ggX0_change_X0_isToldLoad
set_option maxRecDepth 20000 in
theorem ggX0_change_X0_endsAtLine : GoodIn wsX0_change wsX0_endsAtLine := goodIn_r _ [14, 15, 16, 17, 18, 19, 6, 20, 21, 22, 23, 24, 25, 26, 2, 53, 54, 55, 56, 57, 58, 59, 60, 61, 62] (by decide +kernel) (by decide +kernel)
set_option maxRecDepth 20000 in
theorem gX0_change_X0_endsAtLine : GoodIn wsX0_change (wsV RX0 61 RX0 yX0_endsAtLine wsX0_endsAtLine) := goodIn_app (goodIn_of _ (by decide +kernel)) ggX0_change_X0_endsAtLine
set_option maxRecDepth 20000 in
theorem ggX0_change_X0_changed : GoodIn wsX0_change wsX0_changed := goodIn_r _ [29, 30, 31, 6, 32] (by decide +kernel) (by decide +kernel)
set_option maxRecDepth 20000 in
theorem gX0_change_X0_changed : GoodIn wsX0_change (va_wsS RX0 72 yX0_changed wsX0_changed) := goodIn_app (goodIn_of _ (by decide +kernel)) ggX0_change_X0_changed
set_option maxRecDepth 20000 in
theorem ggX0_change_X0_put : GoodIn wsX0_change wsX0_put := goodIn_r _ [36, 3, 37, 38, 6, 39, 40, 41, 42, 43, 44, 45, 46, 47, 48, 49, 50, 51, 52, 53, 54, 55, 56, 57, 58, 59, 60, 61, 62] (by decide +kernel) (by decide +kernel)
set_option maxRecDepth 20000 in
theorem gX0_change_X0_put : GoodIn wsX0_change (wsV RX0 68 RX0 yX0_put wsX0_put) := goodIn_app (goodIn_of _ (by decide +kernel)) ggX0_change_X0_put
theorem dX0_change_0 : decode cX0_change 0 = .ok (.iload_n 1, 1) := by decide +kernel
theorem dX0_change_1 : decode cX0_change 1 = .ok (.invokestatic 53, 3) := by decide +kernel
theorem dX0_change_4 : decode cX0_change 4 = .ok (.ifCond .eq 12, 3) := by decide +kernel
theorem dX0_change_7 : decode cX0_change 7 = .ok (.iload_n 3, 1) := by decide +kernel
theorem dX0_change_8 : decode cX0_change 8 = .ok (.ifCond .lt 8, 3) := by decide +kernel
theorem dX0_change_11 : decode cX0_change 11 = .ok (.iload_n 3, 1) := by decide +kernel
theorem dX0_change_12 : decode cX0_change 12 = .ok (.iconst 3, 1) := by decide +kernel
theorem dX0_change_13 : decode cX0_change 13 = .ok (.if_icmp .le 6, 3) := by decide +kernel
theorem dX0_change_16 : decode cX0_change 16 = .ok (.ldc 57, 2) := by decide +kernel
theorem dX0_change_18 : decode cX0_change 18 = .ok (.ireturn, 1) := by decide +kernel
theorem dX0_change_19 : decode cX0_change 19 = .ok (.iload_n 1, 1) := by decide +kernel
theorem dX0_change_20 : decode cX0_change 20 = .ok (.iconst 2, 1) := by decide +kernel
theorem dX0_change_21 : decode cX0_change 21 = .ok (.if_icmp .ne 23, 3) := by decide +kernel
theorem dX0_change_24 : decode cX0_change 24 = .ok (.iload_n 3, 1) := by decide +kernel
theorem dX0_change_25 : decode cX0_change 25 = .ok (.ifCond .eq 8, 3) := by decide +kernel
theorem dX0_change_28 : decode cX0_change 28 = .ok (.iload_n 3, 1) := by decide +kernel
theorem dX0_change_29 : decode cX0_change 29 = .ok (.iconst 1, 1) := by decide +kernel
theorem dX0_change_30 : decode cX0_change 30 = .ok (.if_icmp .ne 14, 3) := by decide +kernel
theorem dX0_change_33 : decode cX0_change 33 = .ok (.iload 4, 2) := by decide +kernel
theorem dX0_change_35 : decode cX0_change 35 = .ok (.invokestatic 65, 3) := by decide +kernel
theorem dX0_change_38 : decode cX0_change 38 = .ok (.ifCond .ne 6, 3) := by decide +kernel
theorem dX0_change_41 : decode cX0_change 41 = .ok (.ldc 57, 2) := by decide +kernel
theorem dX0_change_43 : decode cX0_change 43 = .ok (.ireturn, 1) := by decide +kernel
theorem dX0_change_44 : decode cX0_change 44 = .ok (.aload_n 0, 1) := by decide +kernel
theorem dX0_change_45 : decode cX0_change 45 = .ok (.iload_n 1, 1) := by decide +kernel
theorem dX0_change_46 : decode cX0_change 46 = .ok (.iload_n 2, 1) := by decide +kernel
theorem dX0_change_47 : decode cX0_change 47 = .ok (.invokevirtual 61, 3) := by decide +kernel
theorem dX0_change_50 : decode cX0_change 50 = .ok (.ifCond .eq 8, 3) := by decide +kernel
theorem dX0_change_53 : decode cX0_change 53 = .ok (.aload_n 0, 1) := by decide +kernel
theorem dX0_change_54 : decode cX0_change 54 = .ok (.getfield 37, 3) := by decide +kernel
theorem dX0_change_57 : decode cX0_change 57 = .ok (.ireturn, 1) := by decide +kernel
theorem dX0_change_58 : decode cX0_change 58 = .ok (.aload_n 0, 1) := by decide +kernel
theorem dX0_change_59 : decode cX0_change 59 = .ok (.iload_n 1, 1) := by decide +kernel
theorem dX0_change_60 : decode cX0_change 60 = .ok (.iload_n 2, 1) := by decide +kernel
theorem dX0_change_61 : decode cX0_change 61 = .ok (.iload_n 1, 1) := by decide +kernel
theorem dX0_change_62 : decode cX0_change 62 = .ok (.aload_n 0, 1) := by decide +kernel
theorem dX0_change_63 : decode cX0_change 63 = .ok (.getfield 15, 3) := by decide +kernel
theorem dX0_change_66 : decode cX0_change 66 = .ok (.iload_n 1, 1) := by decide +kernel
theorem dX0_change_67 : decode cX0_change 67 = .ok (.aaload, 1) := by decide +kernel
theorem dX0_change_68 : decode cX0_change 68 = .ok (.iload_n 2, 1) := by decide +kernel
theorem dX0_change_69 : decode cX0_change 69 = .ok (.iaload, 1) := by decide +kernel
theorem dX0_change_70 : decode cX0_change 70 = .ok (.iload_n 3, 1) := by decide +kernel
theorem dX0_change_71 : decode cX0_change 71 = .ok (.iload 4, 2) := by decide +kernel
theorem dX0_change_73 : decode cX0_change 73 = .ok (.invokestatic 72, 3) := by decide +kernel
theorem dX0_change_76 : decode cX0_change 76 = .ok (.invokevirtual 68, 3) := by decide +kernel
theorem dX0_change_79 : decode cX0_change 79 = .ok (.aload_n 0, 1) := by decide +kernel
theorem dX0_change_80 : decode cX0_change 80 = .ok (.getfield 15, 3) := by decide +kernel
theorem dX0_change_83 : decode cX0_change 83 = .ok (.iload_n 1, 1) := by decide +kernel
theorem dX0_change_84 : decode cX0_change 84 = .ok (.aaload, 1) := by decide +kernel
theorem dX0_change_85 : decode cX0_change 85 = .ok (.iload_n 2, 1) := by decide +kernel
theorem dX0_change_86 : decode cX0_change 86 = .ok (.iaload, 1) := by decide +kernel
theorem dX0_change_87 : decode cX0_change 87 = .ok (.ireturn, 1) := by decide +kernel
set_option maxRecDepth 20000 in
theorem ggX0_tally_X0_isBook : GoodIn wsX0_tally wsX0_isBook := goodIn_r _ [8] (by decide +kernel) (by decide +kernel)
set_option maxRecDepth 20000 in
theorem gX0_tally_X0_isBook : GoodIn wsX0_tally (va_wsS RX0 53 yX0_isBook wsX0_isBook) := goodIn_app (goodIn_of _ (by decide +kernel)) ggX0_tally_X0_isBook
set_option maxRecDepth 20000 in
theorem ggX0_tally_X0_endsAtBook : GoodIn wsX0_tally wsX0_endsAtBook := goodIn_r _ [12, 3, 13, 14, 15, 16, 7, 17, 18, 2, 19, 20, 21, 22, 23, 24, 25, 26, 27, 28] (by decide +kernel) (by decide +kernel)
set_option maxRecDepth 20000 in
theorem gX0_tally_X0_endsAtBook : GoodIn wsX0_tally (wsV RX0 58 RX0 yX0_endsAtBook wsX0_endsAtBook) := goodIn_app (goodIn_of _ (by decide +kernel)) ggX0_tally_X0_endsAtBook
theorem dX0_tally_0 : decode cX0_tally 0 = .ok (.iload_n 1, 1) := by decide +kernel
theorem dX0_tally_1 : decode cX0_tally 1 = .ok (.invokestatic 53, 3) := by decide +kernel
theorem dX0_tally_4 : decode cX0_tally 4 = .ok (.ifCond .ne 6, 3) := by decide +kernel
theorem dX0_tally_7 : decode cX0_tally 7 = .ok (.ldc 57, 2) := by decide +kernel
theorem dX0_tally_9 : decode cX0_tally 9 = .ok (.ireturn, 1) := by decide +kernel
theorem dX0_tally_10 : decode cX0_tally 10 = .ok (.aload_n 0, 1) := by decide +kernel
theorem dX0_tally_11 : decode cX0_tally 11 = .ok (.iload_n 1, 1) := by decide +kernel
theorem dX0_tally_12 : decode cX0_tally 12 = .ok (.invokevirtual 58, 3) := by decide +kernel
theorem dX0_tally_15 : decode cX0_tally 15 = .ok (.ifCond .eq 8, 3) := by decide +kernel
theorem dX0_tally_18 : decode cX0_tally 18 = .ok (.aload_n 0, 1) := by decide +kernel
theorem dX0_tally_19 : decode cX0_tally 19 = .ok (.getfield 37, 3) := by decide +kernel
theorem dX0_tally_22 : decode cX0_tally 22 = .ok (.ireturn, 1) := by decide +kernel
theorem dX0_tally_23 : decode cX0_tally 23 = .ok (.iconst 0, 1) := by decide +kernel
theorem dX0_tally_24 : decode cX0_tally 24 = .ok (.istore_n 2, 1) := by decide +kernel
theorem dX0_tally_25 : decode cX0_tally 25 = .ok (.iconst 0, 1) := by decide +kernel
theorem dX0_tally_26 : decode cX0_tally 26 = .ok (.istore_n 3, 1) := by decide +kernel
theorem dX0_tally_27 : decode cX0_tally 27 = .ok (.iload_n 3, 1) := by decide +kernel
theorem dX0_tally_28 : decode cX0_tally 28 = .ok (.aload_n 0, 1) := by decide +kernel
theorem dX0_tally_29 : decode cX0_tally 29 = .ok (.getfield 9, 3) := by decide +kernel
theorem dX0_tally_32 : decode cX0_tally 32 = .ok (.iload_n 1, 1) := by decide +kernel
theorem dX0_tally_33 : decode cX0_tally 33 = .ok (.iaload, 1) := by decide +kernel
theorem dX0_tally_34 : decode cX0_tally 34 = .ok (.if_icmp .ge 20, 3) := by decide +kernel
theorem dX0_tally_37 : decode cX0_tally 37 = .ok (.iload_n 2, 1) := by decide +kernel
theorem dX0_tally_38 : decode cX0_tally 38 = .ok (.aload_n 0, 1) := by decide +kernel
theorem dX0_tally_39 : decode cX0_tally 39 = .ok (.getfield 15, 3) := by decide +kernel
theorem dX0_tally_42 : decode cX0_tally 42 = .ok (.iload_n 1, 1) := by decide +kernel
theorem dX0_tally_43 : decode cX0_tally 43 = .ok (.aaload, 1) := by decide +kernel
theorem dX0_tally_44 : decode cX0_tally 44 = .ok (.iload_n 3, 1) := by decide +kernel
theorem dX0_tally_45 : decode cX0_tally 45 = .ok (.iaload, 1) := by decide +kernel
theorem dX0_tally_46 : decode cX0_tally 46 = .ok (.iadd, 1) := by decide +kernel
theorem dX0_tally_47 : decode cX0_tally 47 = .ok (.istore_n 2, 1) := by decide +kernel
theorem dX0_tally_48 : decode cX0_tally 48 = .ok (.iinc 3 1, 3) := by decide +kernel
theorem dX0_tally_51 : decode cX0_tally 51 = .ok (.goto (-24), 3) := by decide +kernel
theorem dX0_tally_54 : decode cX0_tally 54 = .ok (.iload_n 2, 1) := by decide +kernel
theorem dX0_tally_55 : decode cX0_tally 55 = .ok (.ireturn, 1) := by decide +kernel
set_option maxRecDepth 20000 in
theorem ggX0_copy_X0_isBook : GoodIn wsX0_copy wsX0_isBook := goodIn_r _ [8] (by decide +kernel) (by decide +kernel)
set_option maxRecDepth 20000 in
theorem gX0_copy_X0_isBook : GoodIn wsX0_copy (va_wsS RX0 53 yX0_isBook wsX0_isBook) := goodIn_app (goodIn_of _ (by decide +kernel)) ggX0_copy_X0_isBook
set_option maxRecDepth 20000 in
theorem ggX0_copy_X0_endsAtBook : GoodIn wsX0_copy wsX0_endsAtBook := goodIn_r _ [12, 3, 13, 14, 15, 16, 7, 17, 18, 2, 47, 48, 49, 50, 51, 52, 53, 54, 55, 56] (by decide +kernel) (by decide +kernel)
set_option maxRecDepth 20000 in
theorem gX0_copy_X0_endsAtBook : GoodIn wsX0_copy (wsV RX0 58 RX0 yX0_endsAtBook wsX0_endsAtBook) := goodIn_app (goodIn_of _ (by decide +kernel)) ggX0_copy_X0_endsAtBook
set_option maxRecDepth 20000 in
theorem ggX0_copy_X0_endsAtLine : GoodIn wsX0_copy wsX0_endsAtLine := goodIn_r _ [22, 3, 23, 9, 10, 11, 7, 12, 13, 14, 15, 16, 17, 18, 2, 47, 48, 49, 50, 51, 52, 53, 54, 55, 56] (by decide +kernel) (by decide +kernel)
set_option maxRecDepth 20000 in
theorem gX0_copy_X0_endsAtLine : GoodIn wsX0_copy (wsV RX0 61 RX0 yX0_endsAtLine wsX0_endsAtLine) := goodIn_app (goodIn_of _ (by decide +kernel)) ggX0_copy_X0_endsAtLine
set_option maxRecDepth 20000 in
theorem ggX0_copy_X0_told : GoodIn wsX0_copy wsX0_told := goodIn_r _ [26, 27, 28, 7, 29, 30, 31, 32, 33, 34, 35, 36] (by decide +kernel) (by decide +kernel)
set_option maxRecDepth 20000 in
theorem gX0_copy_X0_told : GoodIn wsX0_copy (va_wsS RX0 76 yX0_told wsX0_told) := goodIn_app (goodIn_of _ (by decide +kernel)) ggX0_copy_X0_told
set_option maxRecDepth 20000 in
theorem ggX0_copy_X0_put : GoodIn wsX0_copy wsX0_put := goodIn_r _ [40, 4, 41, 42, 7, 43, 44, 45, 46, 27, 28, 29, 30, 31, 32, 33, 34, 35, 36, 47, 48, 49, 50, 51, 52, 53, 54, 55, 56] (by decide +kernel) (by decide +kernel)
set_option maxRecDepth 20000 in
theorem gX0_copy_X0_put : GoodIn wsX0_copy (wsV RX0 68 RX0 yX0_put wsX0_put) := goodIn_app (goodIn_of _ (by decide +kernel)) ggX0_copy_X0_put
theorem dX0_copy_0 : decode cX0_copy 0 = .ok (.iload_n 1, 1) := by decide +kernel
theorem dX0_copy_1 : decode cX0_copy 1 = .ok (.invokestatic 53, 3) := by decide +kernel
theorem dX0_copy_4 : decode cX0_copy 4 = .ok (.ifCond .eq 15, 3) := by decide +kernel
theorem dX0_copy_7 : decode cX0_copy 7 = .ok (.iload_n 2, 1) := by decide +kernel
theorem dX0_copy_8 : decode cX0_copy 8 = .ok (.invokestatic 53, 3) := by decide +kernel
theorem dX0_copy_11 : decode cX0_copy 11 = .ok (.ifCond .eq 8, 3) := by decide +kernel
theorem dX0_copy_14 : decode cX0_copy 14 = .ok (.iload_n 1, 1) := by decide +kernel
theorem dX0_copy_15 : decode cX0_copy 15 = .ok (.iload_n 2, 1) := by decide +kernel
theorem dX0_copy_16 : decode cX0_copy 16 = .ok (.if_icmp .ne 6, 3) := by decide +kernel
theorem dX0_copy_19 : decode cX0_copy 19 = .ok (.ldc 57, 2) := by decide +kernel
theorem dX0_copy_21 : decode cX0_copy 21 = .ok (.ireturn, 1) := by decide +kernel
theorem dX0_copy_22 : decode cX0_copy 22 = .ok (.aload_n 0, 1) := by decide +kernel
theorem dX0_copy_23 : decode cX0_copy 23 = .ok (.iload_n 1, 1) := by decide +kernel
theorem dX0_copy_24 : decode cX0_copy 24 = .ok (.invokevirtual 58, 3) := by decide +kernel
theorem dX0_copy_27 : decode cX0_copy 27 = .ok (.ifCond .eq 8, 3) := by decide +kernel
theorem dX0_copy_30 : decode cX0_copy 30 = .ok (.aload_n 0, 1) := by decide +kernel
theorem dX0_copy_31 : decode cX0_copy 31 = .ok (.getfield 37, 3) := by decide +kernel
theorem dX0_copy_34 : decode cX0_copy 34 = .ok (.ireturn, 1) := by decide +kernel
theorem dX0_copy_35 : decode cX0_copy 35 = .ok (.iconst 0, 1) := by decide +kernel
theorem dX0_copy_36 : decode cX0_copy 36 = .ok (.istore_n 3, 1) := by decide +kernel
theorem dX0_copy_37 : decode cX0_copy 37 = .ok (.iload_n 3, 1) := by decide +kernel
theorem dX0_copy_38 : decode cX0_copy 38 = .ok (.aload_n 0, 1) := by decide +kernel
theorem dX0_copy_39 : decode cX0_copy 39 = .ok (.getfield 9, 3) := by decide +kernel
theorem dX0_copy_42 : decode cX0_copy 42 = .ok (.iload_n 1, 1) := by decide +kernel
theorem dX0_copy_43 : decode cX0_copy 43 = .ok (.iaload, 1) := by decide +kernel
theorem dX0_copy_44 : decode cX0_copy 44 = .ok (.if_icmp .ge 41, 3) := by decide +kernel
theorem dX0_copy_47 : decode cX0_copy 47 = .ok (.aload_n 0, 1) := by decide +kernel
theorem dX0_copy_48 : decode cX0_copy 48 = .ok (.iload_n 2, 1) := by decide +kernel
theorem dX0_copy_49 : decode cX0_copy 49 = .ok (.iload_n 3, 1) := by decide +kernel
theorem dX0_copy_50 : decode cX0_copy 50 = .ok (.invokevirtual 61, 3) := by decide +kernel
theorem dX0_copy_53 : decode cX0_copy 53 = .ok (.ifCond .eq 8, 3) := by decide +kernel
theorem dX0_copy_56 : decode cX0_copy 56 = .ok (.aload_n 0, 1) := by decide +kernel
theorem dX0_copy_57 : decode cX0_copy 57 = .ok (.getfield 37, 3) := by decide +kernel
theorem dX0_copy_60 : decode cX0_copy 60 = .ok (.ireturn, 1) := by decide +kernel
theorem dX0_copy_61 : decode cX0_copy 61 = .ok (.aload_n 0, 1) := by decide +kernel
theorem dX0_copy_62 : decode cX0_copy 62 = .ok (.iload_n 2, 1) := by decide +kernel
theorem dX0_copy_63 : decode cX0_copy 63 = .ok (.iload_n 3, 1) := by decide +kernel
theorem dX0_copy_64 : decode cX0_copy 64 = .ok (.iload_n 2, 1) := by decide +kernel
theorem dX0_copy_65 : decode cX0_copy 65 = .ok (.aload_n 0, 1) := by decide +kernel
theorem dX0_copy_66 : decode cX0_copy 66 = .ok (.getfield 15, 3) := by decide +kernel
theorem dX0_copy_69 : decode cX0_copy 69 = .ok (.iload_n 1, 1) := by decide +kernel
theorem dX0_copy_70 : decode cX0_copy 70 = .ok (.aaload, 1) := by decide +kernel
theorem dX0_copy_71 : decode cX0_copy 71 = .ok (.iload_n 3, 1) := by decide +kernel
theorem dX0_copy_72 : decode cX0_copy 72 = .ok (.iaload, 1) := by decide +kernel
theorem dX0_copy_73 : decode cX0_copy 73 = .ok (.invokestatic 76, 3) := by decide +kernel
theorem dX0_copy_76 : decode cX0_copy 76 = .ok (.invokevirtual 68, 3) := by decide +kernel
theorem dX0_copy_79 : decode cX0_copy 79 = .ok (.iinc 3 1, 3) := by decide +kernel
theorem dX0_copy_82 : decode cX0_copy 82 = .ok (.goto (-45), 3) := by decide +kernel
theorem dX0_copy_85 : decode cX0_copy 85 = .ok (.aload_n 0, 1) := by decide +kernel
theorem dX0_copy_86 : decode cX0_copy 86 = .ok (.getfield 9, 3) := by decide +kernel
theorem dX0_copy_89 : decode cX0_copy 89 = .ok (.iload_n 1, 1) := by decide +kernel
theorem dX0_copy_90 : decode cX0_copy 90 = .ok (.iaload, 1) := by decide +kernel
theorem dX0_copy_91 : decode cX0_copy 91 = .ok (.ireturn, 1) := by decide +kernel
set_option maxRecDepth 20000 in
theorem ggX0_sluice_X0_isChamber : GoodIn wsX0_sluice wsX0_isChamber := goodIn_r _ [8, 9, 50, 51, 52, 53, 54, 55, 56, 57, 58, 59] (by decide +kernel) (by decide +kernel)
set_option maxRecDepth 20000 in
theorem gX0_sluice_X0_isChamber : GoodIn wsX0_sluice (wsV RX0 80 RX0 yX0_isChamber wsX0_isChamber) := goodIn_app (goodIn_of _ (by decide +kernel)) ggX0_sluice_X0_isChamber
set_option maxRecDepth 20000 in
theorem ggX0_sluice_X0_endsAtLine : GoodIn wsX0_sluice wsX0_endsAtLine := goodIn_r _ [13, 14, 15, 16, 17, 18, 7, 19, 20, 21, 22, 23, 24, 25, 2, 50, 51, 52, 53, 54, 55, 56, 57, 58, 59] (by decide +kernel) (by decide +kernel)
set_option maxRecDepth 20000 in
theorem gX0_sluice_X0_endsAtLine : GoodIn wsX0_sluice (wsV RX0 61 RX0 yX0_endsAtLine wsX0_endsAtLine) := goodIn_app (goodIn_of _ (by decide +kernel)) ggX0_sluice_X0_endsAtLine
set_option maxRecDepth 20000 in
theorem ggX0_sluice_X0_put : GoodIn wsX0_sluice wsX0_put := goodIn_r _ [29, 3, 30, 31, 7, 32, 33, 34, 35, 36, 37, 38, 39, 40, 41, 42, 43, 44, 45, 50, 51, 52, 53, 54, 55, 56, 57, 58, 59] (by decide +kernel) (by decide +kernel)
set_option maxRecDepth 20000 in
theorem gX0_sluice_X0_put : GoodIn wsX0_sluice (wsV RX0 68 RX0 yX0_put wsX0_put) := goodIn_app (goodIn_of _ (by decide +kernel)) ggX0_sluice_X0_put
set_option maxRecDepth 20000 in
theorem ggX0_sluice_X0_isLast : GoodIn wsX0_sluice wsX0_isLast := goodIn_r _ [49, 9, 50, 51, 52, 53, 54, 55, 56, 57, 58, 59] (by decide +kernel) (by decide +kernel)
set_option maxRecDepth 20000 in
theorem gX0_sluice_X0_isLast : GoodIn wsX0_sluice (wsV RX0 83 RX0 yX0_isLast wsX0_isLast) := goodIn_app (goodIn_of _ (by decide +kernel)) ggX0_sluice_X0_isLast
theorem dX0_sluice_0 : decode cX0_sluice 0 = .ok (.aload_n 0, 1) := by decide +kernel
theorem dX0_sluice_1 : decode cX0_sluice 1 = .ok (.iload_n 1, 1) := by decide +kernel
theorem dX0_sluice_2 : decode cX0_sluice 2 = .ok (.invokevirtual 80, 3) := by decide +kernel
theorem dX0_sluice_5 : decode cX0_sluice 5 = .ok (.ifCond .ne 6, 3) := by decide +kernel
theorem dX0_sluice_8 : decode cX0_sluice 8 = .ok (.ldc 57, 2) := by decide +kernel
theorem dX0_sluice_10 : decode cX0_sluice 10 = .ok (.ireturn, 1) := by decide +kernel
theorem dX0_sluice_11 : decode cX0_sluice 11 = .ok (.aload_n 0, 1) := by decide +kernel
theorem dX0_sluice_12 : decode cX0_sluice 12 = .ok (.iconst 1, 1) := by decide +kernel
theorem dX0_sluice_13 : decode cX0_sluice 13 = .ok (.iload_n 1, 1) := by decide +kernel
theorem dX0_sluice_14 : decode cX0_sluice 14 = .ok (.invokevirtual 61, 3) := by decide +kernel
theorem dX0_sluice_17 : decode cX0_sluice 17 = .ok (.ifCond .eq 8, 3) := by decide +kernel
theorem dX0_sluice_20 : decode cX0_sluice 20 = .ok (.aload_n 0, 1) := by decide +kernel
theorem dX0_sluice_21 : decode cX0_sluice 21 = .ok (.getfield 37, 3) := by decide +kernel
theorem dX0_sluice_24 : decode cX0_sluice 24 = .ok (.ireturn, 1) := by decide +kernel
theorem dX0_sluice_25 : decode cX0_sluice 25 = .ok (.aload_n 0, 1) := by decide +kernel
theorem dX0_sluice_26 : decode cX0_sluice 26 = .ok (.iconst 1, 1) := by decide +kernel
theorem dX0_sluice_27 : decode cX0_sluice 27 = .ok (.iload_n 1, 1) := by decide +kernel
theorem dX0_sluice_28 : decode cX0_sluice 28 = .ok (.aload_n 0, 1) := by decide +kernel
theorem dX0_sluice_29 : decode cX0_sluice 29 = .ok (.getfield 15, 3) := by decide +kernel
theorem dX0_sluice_32 : decode cX0_sluice 32 = .ok (.iconst 1, 1) := by decide +kernel
theorem dX0_sluice_33 : decode cX0_sluice 33 = .ok (.aaload, 1) := by decide +kernel
theorem dX0_sluice_34 : decode cX0_sluice 34 = .ok (.iload_n 1, 1) := by decide +kernel
theorem dX0_sluice_35 : decode cX0_sluice 35 = .ok (.iaload, 1) := by decide +kernel
theorem dX0_sluice_36 : decode cX0_sluice 36 = .ok (.iload_n 2, 1) := by decide +kernel
theorem dX0_sluice_37 : decode cX0_sluice 37 = .ok (.isub, 1) := by decide +kernel
theorem dX0_sluice_38 : decode cX0_sluice 38 = .ok (.invokevirtual 68, 3) := by decide +kernel
theorem dX0_sluice_41 : decode cX0_sluice 41 = .ok (.aload_n 0, 1) := by decide +kernel
theorem dX0_sluice_42 : decode cX0_sluice 42 = .ok (.iload_n 1, 1) := by decide +kernel
theorem dX0_sluice_43 : decode cX0_sluice 43 = .ok (.invokevirtual 83, 3) := by decide +kernel
theorem dX0_sluice_46 : decode cX0_sluice 46 = .ok (.ifCond .ne 39, 3) := by decide +kernel
theorem dX0_sluice_49 : decode cX0_sluice 49 = .ok (.aload_n 0, 1) := by decide +kernel
theorem dX0_sluice_50 : decode cX0_sluice 50 = .ok (.iconst 1, 1) := by decide +kernel
theorem dX0_sluice_51 : decode cX0_sluice 51 = .ok (.iload_n 1, 1) := by decide +kernel
theorem dX0_sluice_52 : decode cX0_sluice 52 = .ok (.iconst 1, 1) := by decide +kernel
theorem dX0_sluice_53 : decode cX0_sluice 53 = .ok (.iadd, 1) := by decide +kernel
theorem dX0_sluice_54 : decode cX0_sluice 54 = .ok (.invokevirtual 61, 3) := by decide +kernel
theorem dX0_sluice_57 : decode cX0_sluice 57 = .ok (.ifCond .eq 8, 3) := by decide +kernel
theorem dX0_sluice_60 : decode cX0_sluice 60 = .ok (.aload_n 0, 1) := by decide +kernel
theorem dX0_sluice_61 : decode cX0_sluice 61 = .ok (.getfield 37, 3) := by decide +kernel
theorem dX0_sluice_64 : decode cX0_sluice 64 = .ok (.ireturn, 1) := by decide +kernel
theorem dX0_sluice_65 : decode cX0_sluice 65 = .ok (.aload_n 0, 1) := by decide +kernel
theorem dX0_sluice_66 : decode cX0_sluice 66 = .ok (.iconst 1, 1) := by decide +kernel
theorem dX0_sluice_67 : decode cX0_sluice 67 = .ok (.iload_n 1, 1) := by decide +kernel
theorem dX0_sluice_68 : decode cX0_sluice 68 = .ok (.iconst 1, 1) := by decide +kernel
theorem dX0_sluice_69 : decode cX0_sluice 69 = .ok (.iadd, 1) := by decide +kernel
theorem dX0_sluice_70 : decode cX0_sluice 70 = .ok (.aload_n 0, 1) := by decide +kernel
theorem dX0_sluice_71 : decode cX0_sluice 71 = .ok (.getfield 15, 3) := by decide +kernel
theorem dX0_sluice_74 : decode cX0_sluice 74 = .ok (.iconst 1, 1) := by decide +kernel
theorem dX0_sluice_75 : decode cX0_sluice 75 = .ok (.aaload, 1) := by decide +kernel
theorem dX0_sluice_76 : decode cX0_sluice 76 = .ok (.iload_n 1, 1) := by decide +kernel
theorem dX0_sluice_77 : decode cX0_sluice 77 = .ok (.iconst 1, 1) := by decide +kernel
theorem dX0_sluice_78 : decode cX0_sluice 78 = .ok (.iadd, 1) := by decide +kernel
theorem dX0_sluice_79 : decode cX0_sluice 79 = .ok (.iaload, 1) := by decide +kernel
theorem dX0_sluice_80 : decode cX0_sluice 80 = .ok (.iload_n 2, 1) := by decide +kernel
theorem dX0_sluice_81 : decode cX0_sluice 81 = .ok (.iadd, 1) := by decide +kernel
theorem dX0_sluice_82 : decode cX0_sluice 82 = .ok (.invokevirtual 68, 3) := by decide +kernel
theorem dX0_sluice_85 : decode cX0_sluice 85 = .ok (.aload_n 0, 1) := by decide +kernel
theorem dX0_sluice_86 : decode cX0_sluice 86 = .ok (.getfield 15, 3) := by decide +kernel
theorem dX0_sluice_89 : decode cX0_sluice 89 = .ok (.iconst 1, 1) := by decide +kernel
theorem dX0_sluice_90 : decode cX0_sluice 90 = .ok (.aaload, 1) := by decide +kernel
theorem dX0_sluice_91 : decode cX0_sluice 91 = .ok (.iload_n 1, 1) := by decide +kernel
theorem dX0_sluice_92 : decode cX0_sluice 92 = .ok (.iaload, 1) := by decide +kernel
theorem dX0_sluice_93 : decode cX0_sluice 93 = .ok (.ireturn, 1) := by decide +kernel
set_option maxRecDepth 20000 in
theorem ggX0_open_X0_isChamber : GoodIn wsX0_open wsX0_isChamber := goodIn_r _ [8, 9, 50, 51, 52, 53, 54, 55, 56, 57, 58, 59] (by decide +kernel) (by decide +kernel)
set_option maxRecDepth 20000 in
theorem gX0_open_X0_isChamber : GoodIn wsX0_open (wsV RX0 80 RX0 yX0_isChamber wsX0_isChamber) := goodIn_app (goodIn_of _ (by decide +kernel)) ggX0_open_X0_isChamber
set_option maxRecDepth 20000 in
theorem ggX0_open_X0_endsAtLine : GoodIn wsX0_open wsX0_endsAtLine := goodIn_r _ [13, 14, 15, 16, 17, 18, 7, 19, 20, 21, 22, 23, 24, 25, 2, 50, 51, 52, 53, 54, 55, 56, 57, 58, 59] (by decide +kernel) (by decide +kernel)
set_option maxRecDepth 20000 in
theorem gX0_open_X0_endsAtLine : GoodIn wsX0_open (wsV RX0 61 RX0 yX0_endsAtLine wsX0_endsAtLine) := goodIn_app (goodIn_of _ (by decide +kernel)) ggX0_open_X0_endsAtLine
set_option maxRecDepth 20000 in
theorem ggX0_open_X0_isLast : GoodIn wsX0_open wsX0_isLast := goodIn_r _ [29, 9, 50, 51, 52, 53, 54, 55, 56, 57, 58, 59] (by decide +kernel) (by decide +kernel)
set_option maxRecDepth 20000 in
theorem gX0_open_X0_isLast : GoodIn wsX0_open (wsV RX0 83 RX0 yX0_isLast wsX0_isLast) := goodIn_app (goodIn_of _ (by decide +kernel)) ggX0_open_X0_isLast
set_option maxRecDepth 20000 in
theorem ggX0_open_X0_put : GoodIn wsX0_open wsX0_put := goodIn_r _ [33, 3, 34, 35, 7, 36, 37, 38, 39, 40, 41, 42, 43, 44, 45, 46, 47, 48, 49, 50, 51, 52, 53, 54, 55, 56, 57, 58, 59] (by decide +kernel) (by decide +kernel)
set_option maxRecDepth 20000 in
theorem gX0_open_X0_put : GoodIn wsX0_open (wsV RX0 68 RX0 yX0_put wsX0_put) := goodIn_app (goodIn_of _ (by decide +kernel)) ggX0_open_X0_put
theorem dX0_open_0 : decode cX0_open 0 = .ok (.aload_n 0, 1) := by decide +kernel
theorem dX0_open_1 : decode cX0_open 1 = .ok (.iload_n 1, 1) := by decide +kernel
theorem dX0_open_2 : decode cX0_open 2 = .ok (.invokevirtual 80, 3) := by decide +kernel
theorem dX0_open_5 : decode cX0_open 5 = .ok (.ifCond .ne 6, 3) := by decide +kernel
theorem dX0_open_8 : decode cX0_open 8 = .ok (.ldc 57, 2) := by decide +kernel
theorem dX0_open_10 : decode cX0_open 10 = .ok (.ireturn, 1) := by decide +kernel
theorem dX0_open_11 : decode cX0_open 11 = .ok (.aload_n 0, 1) := by decide +kernel
theorem dX0_open_12 : decode cX0_open 12 = .ok (.iconst 1, 1) := by decide +kernel
theorem dX0_open_13 : decode cX0_open 13 = .ok (.iload_n 1, 1) := by decide +kernel
theorem dX0_open_14 : decode cX0_open 14 = .ok (.invokevirtual 61, 3) := by decide +kernel
theorem dX0_open_17 : decode cX0_open 17 = .ok (.ifCond .eq 8, 3) := by decide +kernel
theorem dX0_open_20 : decode cX0_open 20 = .ok (.aload_n 0, 1) := by decide +kernel
theorem dX0_open_21 : decode cX0_open 21 = .ok (.getfield 37, 3) := by decide +kernel
theorem dX0_open_24 : decode cX0_open 24 = .ok (.ireturn, 1) := by decide +kernel
theorem dX0_open_25 : decode cX0_open 25 = .ok (.iconst 0, 1) := by decide +kernel
theorem dX0_open_26 : decode cX0_open 26 = .ok (.istore_n 2, 1) := by decide +kernel
theorem dX0_open_27 : decode cX0_open 27 = .ok (.aload_n 0, 1) := by decide +kernel
theorem dX0_open_28 : decode cX0_open 28 = .ok (.iload_n 1, 1) := by decide +kernel
theorem dX0_open_29 : decode cX0_open 29 = .ok (.invokevirtual 83, 3) := by decide +kernel
theorem dX0_open_32 : decode cX0_open 32 = .ok (.ifCond .ne 30, 3) := by decide +kernel
theorem dX0_open_35 : decode cX0_open 35 = .ok (.aload_n 0, 1) := by decide +kernel
theorem dX0_open_36 : decode cX0_open 36 = .ok (.iconst 1, 1) := by decide +kernel
theorem dX0_open_37 : decode cX0_open 37 = .ok (.iload_n 1, 1) := by decide +kernel
theorem dX0_open_38 : decode cX0_open 38 = .ok (.iconst 1, 1) := by decide +kernel
theorem dX0_open_39 : decode cX0_open 39 = .ok (.iadd, 1) := by decide +kernel
theorem dX0_open_40 : decode cX0_open 40 = .ok (.invokevirtual 61, 3) := by decide +kernel
theorem dX0_open_43 : decode cX0_open 43 = .ok (.ifCond .eq 8, 3) := by decide +kernel
theorem dX0_open_46 : decode cX0_open 46 = .ok (.aload_n 0, 1) := by decide +kernel
theorem dX0_open_47 : decode cX0_open 47 = .ok (.getfield 37, 3) := by decide +kernel
theorem dX0_open_50 : decode cX0_open 50 = .ok (.ireturn, 1) := by decide +kernel
theorem dX0_open_51 : decode cX0_open 51 = .ok (.aload_n 0, 1) := by decide +kernel
theorem dX0_open_52 : decode cX0_open 52 = .ok (.getfield 15, 3) := by decide +kernel
theorem dX0_open_55 : decode cX0_open 55 = .ok (.iconst 1, 1) := by decide +kernel
theorem dX0_open_56 : decode cX0_open 56 = .ok (.aaload, 1) := by decide +kernel
theorem dX0_open_57 : decode cX0_open 57 = .ok (.iload_n 1, 1) := by decide +kernel
theorem dX0_open_58 : decode cX0_open 58 = .ok (.iconst 1, 1) := by decide +kernel
theorem dX0_open_59 : decode cX0_open 59 = .ok (.iadd, 1) := by decide +kernel
theorem dX0_open_60 : decode cX0_open 60 = .ok (.iaload, 1) := by decide +kernel
theorem dX0_open_61 : decode cX0_open 61 = .ok (.istore_n 2, 1) := by decide +kernel
theorem dX0_open_62 : decode cX0_open 62 = .ok (.aload_n 0, 1) := by decide +kernel
theorem dX0_open_63 : decode cX0_open 63 = .ok (.getfield 15, 3) := by decide +kernel
theorem dX0_open_66 : decode cX0_open 66 = .ok (.iconst 1, 1) := by decide +kernel
theorem dX0_open_67 : decode cX0_open 67 = .ok (.aaload, 1) := by decide +kernel
theorem dX0_open_68 : decode cX0_open 68 = .ok (.iload_n 1, 1) := by decide +kernel
theorem dX0_open_69 : decode cX0_open 69 = .ok (.iaload, 1) := by decide +kernel
theorem dX0_open_70 : decode cX0_open 70 = .ok (.iload_n 2, 1) := by decide +kernel
theorem dX0_open_71 : decode cX0_open 71 = .ok (.if_icmp .eq 6, 3) := by decide +kernel
theorem dX0_open_74 : decode cX0_open 74 = .ok (.bipush (-2), 2) := by decide +kernel
theorem dX0_open_76 : decode cX0_open 76 = .ok (.ireturn, 1) := by decide +kernel
theorem dX0_open_77 : decode cX0_open 77 = .ok (.aload_n 0, 1) := by decide +kernel
theorem dX0_open_78 : decode cX0_open 78 = .ok (.iconst 3, 1) := by decide +kernel
theorem dX0_open_79 : decode cX0_open 79 = .ok (.iload_n 1, 1) := by decide +kernel
theorem dX0_open_80 : decode cX0_open 80 = .ok (.invokevirtual 61, 3) := by decide +kernel
theorem dX0_open_83 : decode cX0_open 83 = .ok (.ifCond .eq 8, 3) := by decide +kernel
theorem dX0_open_86 : decode cX0_open 86 = .ok (.aload_n 0, 1) := by decide +kernel
theorem dX0_open_87 : decode cX0_open 87 = .ok (.getfield 37, 3) := by decide +kernel
theorem dX0_open_90 : decode cX0_open 90 = .ok (.ireturn, 1) := by decide +kernel
theorem dX0_open_91 : decode cX0_open 91 = .ok (.aload_n 0, 1) := by decide +kernel
theorem dX0_open_92 : decode cX0_open 92 = .ok (.iconst 3, 1) := by decide +kernel
theorem dX0_open_93 : decode cX0_open 93 = .ok (.iload_n 1, 1) := by decide +kernel
theorem dX0_open_94 : decode cX0_open 94 = .ok (.iconst 1, 1) := by decide +kernel
theorem dX0_open_95 : decode cX0_open 95 = .ok (.invokevirtual 68, 3) := by decide +kernel
theorem dX0_open_98 : decode cX0_open 98 = .ok (.iconst 0, 1) := by decide +kernel
theorem dX0_open_99 : decode cX0_open 99 = .ok (.ireturn, 1) := by decide +kernel
set_option maxRecDepth 20000 in
theorem ggX0_shut_X0_isChamber : GoodIn wsX0_shut wsX0_isChamber := goodIn_r _ [8, 9, 46, 47, 48, 49, 50, 51, 52, 53, 54, 55] (by decide +kernel) (by decide +kernel)
set_option maxRecDepth 20000 in
theorem gX0_shut_X0_isChamber : GoodIn wsX0_shut (wsV RX0 80 RX0 yX0_isChamber wsX0_isChamber) := goodIn_app (goodIn_of _ (by decide +kernel)) ggX0_shut_X0_isChamber
set_option maxRecDepth 20000 in
theorem ggX0_shut_X0_endsAtLine : GoodIn wsX0_shut wsX0_endsAtLine := goodIn_r _ [13, 14, 15, 16, 17, 18, 7, 19, 20, 21, 22, 23, 24, 25, 2, 46, 47, 48, 49, 50, 51, 52, 53, 54, 55] (by decide +kernel) (by decide +kernel)
set_option maxRecDepth 20000 in
theorem gX0_shut_X0_endsAtLine : GoodIn wsX0_shut (wsV RX0 61 RX0 yX0_endsAtLine wsX0_endsAtLine) := goodIn_app (goodIn_of _ (by decide +kernel)) ggX0_shut_X0_endsAtLine
set_option maxRecDepth 20000 in
theorem ggX0_shut_X0_put : GoodIn wsX0_shut wsX0_put := goodIn_r _ [29, 3, 30, 31, 7, 32, 33, 34, 35, 36, 37, 38, 39, 40, 41, 42, 43, 44, 45, 46, 47, 48, 49, 50, 51, 52, 53, 54, 55] (by decide +kernel) (by decide +kernel)
set_option maxRecDepth 20000 in
theorem gX0_shut_X0_put : GoodIn wsX0_shut (wsV RX0 68 RX0 yX0_put wsX0_put) := goodIn_app (goodIn_of _ (by decide +kernel)) ggX0_shut_X0_put
theorem dX0_shut_0 : decode cX0_shut 0 = .ok (.aload_n 0, 1) := by decide +kernel
theorem dX0_shut_1 : decode cX0_shut 1 = .ok (.iload_n 1, 1) := by decide +kernel
theorem dX0_shut_2 : decode cX0_shut 2 = .ok (.invokevirtual 80, 3) := by decide +kernel
theorem dX0_shut_5 : decode cX0_shut 5 = .ok (.ifCond .ne 6, 3) := by decide +kernel
theorem dX0_shut_8 : decode cX0_shut 8 = .ok (.ldc 57, 2) := by decide +kernel
theorem dX0_shut_10 : decode cX0_shut 10 = .ok (.ireturn, 1) := by decide +kernel
theorem dX0_shut_11 : decode cX0_shut 11 = .ok (.aload_n 0, 1) := by decide +kernel
theorem dX0_shut_12 : decode cX0_shut 12 = .ok (.iconst 3, 1) := by decide +kernel
theorem dX0_shut_13 : decode cX0_shut 13 = .ok (.iload_n 1, 1) := by decide +kernel
theorem dX0_shut_14 : decode cX0_shut 14 = .ok (.invokevirtual 61, 3) := by decide +kernel
theorem dX0_shut_17 : decode cX0_shut 17 = .ok (.ifCond .eq 8, 3) := by decide +kernel
theorem dX0_shut_20 : decode cX0_shut 20 = .ok (.aload_n 0, 1) := by decide +kernel
theorem dX0_shut_21 : decode cX0_shut 21 = .ok (.getfield 37, 3) := by decide +kernel
theorem dX0_shut_24 : decode cX0_shut 24 = .ok (.ireturn, 1) := by decide +kernel
theorem dX0_shut_25 : decode cX0_shut 25 = .ok (.aload_n 0, 1) := by decide +kernel
theorem dX0_shut_26 : decode cX0_shut 26 = .ok (.getfield 15, 3) := by decide +kernel
theorem dX0_shut_29 : decode cX0_shut 29 = .ok (.iconst 3, 1) := by decide +kernel
theorem dX0_shut_30 : decode cX0_shut 30 = .ok (.aaload, 1) := by decide +kernel
theorem dX0_shut_31 : decode cX0_shut 31 = .ok (.iload_n 1, 1) := by decide +kernel
theorem dX0_shut_32 : decode cX0_shut 32 = .ok (.iaload, 1) := by decide +kernel
theorem dX0_shut_33 : decode cX0_shut 33 = .ok (.istore_n 2, 1) := by decide +kernel
theorem dX0_shut_34 : decode cX0_shut 34 = .ok (.aload_n 0, 1) := by decide +kernel
theorem dX0_shut_35 : decode cX0_shut 35 = .ok (.iconst 3, 1) := by decide +kernel
theorem dX0_shut_36 : decode cX0_shut 36 = .ok (.iload_n 1, 1) := by decide +kernel
theorem dX0_shut_37 : decode cX0_shut 37 = .ok (.iconst 0, 1) := by decide +kernel
theorem dX0_shut_38 : decode cX0_shut 38 = .ok (.invokevirtual 68, 3) := by decide +kernel
theorem dX0_shut_41 : decode cX0_shut 41 = .ok (.iload_n 2, 1) := by decide +kernel
theorem dX0_shut_42 : decode cX0_shut 42 = .ok (.ireturn, 1) := by decide +kernel
set_option maxRecDepth 20000 in
theorem ggX0_enter_X0_cut : GoodIn wsX0_enter wsX0_cut := goodIn_r _ [7, 8, 9, 10, 11, 12, 6, 13, 14, 15, 16, 17, 18, 19, 20] (by decide +kernel) (by decide +kernel)
set_option maxRecDepth 20000 in
theorem gX0_enter_X0_cut : GoodIn wsX0_enter (va_wsS RX0 86 yX0_cut wsX0_cut) := goodIn_app (goodIn_of _ (by decide +kernel)) ggX0_enter_X0_cut
set_option maxRecDepth 20000 in
theorem ggX0_enter_X0_endsAtLine : GoodIn wsX0_enter wsX0_endsAtLine := goodIn_r _ [24, 25, 26, 27, 28, 29, 6, 30, 31, 32, 33, 34, 35, 36, 2, 45, 46, 47, 48, 49, 50, 51, 52, 53, 54] (by decide +kernel) (by decide +kernel)
end
section
set_option maxRecDepth 20000 in
theorem gX0_enter_X0_endsAtLine : GoodIn wsX0_enter (wsV RX0 61 RX0 yX0_endsAtLine wsX0_endsAtLine) := goodIn_app (goodIn_of _ (by decide +kernel)) ggX0_enter_X0_endsAtLine
set_option maxRecDepth 20000 in
theorem ggX0_enter_X0_endsAtArrival : GoodIn wsX0_enter wsX0_endsAtArrival := goodIn_r _ [40, 3, 21, 22, 23, 6, 24, 25, 26, 27, 28, 29, 30, 31, 32, 33, 34, 35, 36, 2, 41, 42, 43, 44, 4, 5, 7, 8, 9, 10, 11, 12, 13, 14, 15, 16, 17, 18, 19, 20, 45, 46, 47, 48, 49, 50, 51, 52, 53, 54] (by decide +kernel) (by decide +kernel)
set_option maxRecDepth 20000 in
theorem gX0_enter_X0_endsAtArrival : GoodIn wsX0_enter (wsV RX0 89 RX0 yX0_endsAtArrival wsX0_endsAtArrival) := goodIn_app (goodIn_of _ (by decide +kernel)) ggX0_enter_X0_endsAtArrival
theorem dX0_enter_0 : decode cX0_enter 0 = .ok (.iconst 0, 1) := by decide +kernel
theorem dX0_enter_1 : decode cX0_enter 1 = .ok (.iload_n 1, 1) := by decide +kernel
theorem dX0_enter_2 : decode cX0_enter 2 = .ok (.invokestatic 86, 3) := by decide +kernel
theorem dX0_enter_5 : decode cX0_enter 5 = .ok (.ifCond .eq 14, 3) := by decide +kernel
theorem dX0_enter_8 : decode cX0_enter 8 = .ok (.iload_n 2, 1) := by decide +kernel
theorem dX0_enter_9 : decode cX0_enter 9 = .ok (.ifCond .lt 10, 3) := by decide +kernel
theorem dX0_enter_12 : decode cX0_enter 12 = .ok (.iload_n 2, 1) := by decide +kernel
theorem dX0_enter_13 : decode cX0_enter 13 = .ok (.sipush 16000, 3) := by decide +kernel
theorem dX0_enter_16 : decode cX0_enter 16 = .ok (.if_icmp .le 6, 3) := by decide +kernel
theorem dX0_enter_19 : decode cX0_enter 19 = .ok (.ldc 57, 2) := by decide +kernel
theorem dX0_enter_21 : decode cX0_enter 21 = .ok (.ireturn, 1) := by decide +kernel
theorem dX0_enter_22 : decode cX0_enter 22 = .ok (.aload_n 0, 1) := by decide +kernel
theorem dX0_enter_23 : decode cX0_enter 23 = .ok (.iconst 0, 1) := by decide +kernel
theorem dX0_enter_24 : decode cX0_enter 24 = .ok (.iconst 0, 1) := by decide +kernel
theorem dX0_enter_25 : decode cX0_enter 25 = .ok (.invokevirtual 61, 3) := by decide +kernel
theorem dX0_enter_28 : decode cX0_enter 28 = .ok (.ifCond .eq 8, 3) := by decide +kernel
theorem dX0_enter_31 : decode cX0_enter 31 = .ok (.aload_n 0, 1) := by decide +kernel
theorem dX0_enter_32 : decode cX0_enter 32 = .ok (.getfield 37, 3) := by decide +kernel
theorem dX0_enter_35 : decode cX0_enter 35 = .ok (.ireturn, 1) := by decide +kernel
theorem dX0_enter_36 : decode cX0_enter 36 = .ok (.aload_n 0, 1) := by decide +kernel
theorem dX0_enter_37 : decode cX0_enter 37 = .ok (.getfield 15, 3) := by decide +kernel
theorem dX0_enter_40 : decode cX0_enter 40 = .ok (.iconst 0, 1) := by decide +kernel
theorem dX0_enter_41 : decode cX0_enter 41 = .ok (.aaload, 1) := by decide +kernel
theorem dX0_enter_42 : decode cX0_enter 42 = .ok (.iconst 0, 1) := by decide +kernel
theorem dX0_enter_43 : decode cX0_enter 43 = .ok (.iaload, 1) := by decide +kernel
theorem dX0_enter_44 : decode cX0_enter 44 = .ok (.ifCond .eq 6, 3) := by decide +kernel
theorem dX0_enter_47 : decode cX0_enter 47 = .ok (.bipush (-2), 2) := by decide +kernel
theorem dX0_enter_49 : decode cX0_enter 49 = .ok (.ireturn, 1) := by decide +kernel
theorem dX0_enter_50 : decode cX0_enter 50 = .ok (.aload_n 0, 1) := by decide +kernel
theorem dX0_enter_51 : decode cX0_enter 51 = .ok (.iconst 1, 1) := by decide +kernel
theorem dX0_enter_52 : decode cX0_enter 52 = .ok (.iconst 0, 1) := by decide +kernel
theorem dX0_enter_53 : decode cX0_enter 53 = .ok (.invokevirtual 61, 3) := by decide +kernel
theorem dX0_enter_56 : decode cX0_enter 56 = .ok (.ifCond .eq 8, 3) := by decide +kernel
theorem dX0_enter_59 : decode cX0_enter 59 = .ok (.aload_n 0, 1) := by decide +kernel
theorem dX0_enter_60 : decode cX0_enter 60 = .ok (.getfield 37, 3) := by decide +kernel
theorem dX0_enter_63 : decode cX0_enter 63 = .ok (.ireturn, 1) := by decide +kernel
theorem dX0_enter_64 : decode cX0_enter 64 = .ok (.iload_n 2, 1) := by decide +kernel
theorem dX0_enter_65 : decode cX0_enter 65 = .ok (.bipush 8, 2) := by decide +kernel
theorem dX0_enter_67 : decode cX0_enter 67 = .ok (.aload_n 0, 1) := by decide +kernel
theorem dX0_enter_68 : decode cX0_enter 68 = .ok (.getfield 15, 3) := by decide +kernel
theorem dX0_enter_71 : decode cX0_enter 71 = .ok (.iconst 1, 1) := by decide +kernel
theorem dX0_enter_72 : decode cX0_enter 72 = .ok (.aaload, 1) := by decide +kernel
theorem dX0_enter_73 : decode cX0_enter 73 = .ok (.iconst 0, 1) := by decide +kernel
theorem dX0_enter_74 : decode cX0_enter 74 = .ok (.iaload, 1) := by decide +kernel
theorem dX0_enter_75 : decode cX0_enter 75 = .ok (.imul, 1) := by decide +kernel
theorem dX0_enter_76 : decode cX0_enter 76 = .ok (.if_icmp .le 6, 3) := by decide +kernel
theorem dX0_enter_79 : decode cX0_enter 79 = .ok (.bipush (-3), 2) := by decide +kernel
theorem dX0_enter_81 : decode cX0_enter 81 = .ok (.ireturn, 1) := by decide +kernel
theorem dX0_enter_82 : decode cX0_enter 82 = .ok (.aload_n 0, 1) := by decide +kernel
theorem dX0_enter_83 : decode cX0_enter 83 = .ok (.iconst 0, 1) := by decide +kernel
theorem dX0_enter_84 : decode cX0_enter 84 = .ok (.iload_n 1, 1) := by decide +kernel
theorem dX0_enter_85 : decode cX0_enter 85 = .ok (.iload_n 2, 1) := by decide +kernel
theorem dX0_enter_86 : decode cX0_enter 86 = .ok (.invokevirtual 89, 3) := by decide +kernel
theorem dX0_enter_89 : decode cX0_enter 89 = .ok (.ifCond .eq 8, 3) := by decide +kernel
theorem dX0_enter_92 : decode cX0_enter 92 = .ok (.aload_n 0, 1) := by decide +kernel
theorem dX0_enter_93 : decode cX0_enter 93 = .ok (.getfield 37, 3) := by decide +kernel
theorem dX0_enter_96 : decode cX0_enter 96 = .ok (.ireturn, 1) := by decide +kernel
theorem dX0_enter_97 : decode cX0_enter 97 = .ok (.aload_n 0, 1) := by decide +kernel
theorem dX0_enter_98 : decode cX0_enter 98 = .ok (.getfield 15, 3) := by decide +kernel
theorem dX0_enter_101 : decode cX0_enter 101 = .ok (.iconst 4, 1) := by decide +kernel
theorem dX0_enter_102 : decode cX0_enter 102 = .ok (.aaload, 1) := by decide +kernel
theorem dX0_enter_103 : decode cX0_enter 103 = .ok (.iconst 0, 1) := by decide +kernel
theorem dX0_enter_104 : decode cX0_enter 104 = .ok (.iaload, 1) := by decide +kernel
theorem dX0_enter_105 : decode cX0_enter 105 = .ok (.ireturn, 1) := by decide +kernel
set_option maxRecDepth 20000 in
theorem ggX0_pass_X0_isChamber : GoodIn wsX0_pass wsX0_isChamber := goodIn_r _ [8, 9, 68, 69, 70, 71, 72, 73, 74, 75, 76, 77] (by decide +kernel) (by decide +kernel)
set_option maxRecDepth 20000 in
theorem gX0_pass_X0_isChamber : GoodIn wsX0_pass (wsV RX0 80 RX0 yX0_isChamber wsX0_isChamber) := goodIn_app (goodIn_of _ (by decide +kernel)) ggX0_pass_X0_isChamber
set_option maxRecDepth 20000 in
theorem ggX0_pass_X0_endsAtLine : GoodIn wsX0_pass wsX0_endsAtLine := goodIn_r _ [13, 14, 15, 16, 17, 18, 7, 19, 20, 21, 22, 23, 24, 25, 2, 68, 69, 70, 71, 72, 73, 74, 75, 76, 77] (by decide +kernel) (by decide +kernel)
set_option maxRecDepth 20000 in
theorem gX0_pass_X0_endsAtLine : GoodIn wsX0_pass (wsV RX0 61 RX0 yX0_endsAtLine wsX0_endsAtLine) := goodIn_app (goodIn_of _ (by decide +kernel)) ggX0_pass_X0_endsAtLine
set_option maxRecDepth 20000 in
theorem ggX0_pass_X0_isLast : GoodIn wsX0_pass wsX0_isLast := goodIn_r _ [29, 9, 68, 69, 70, 71, 72, 73, 74, 75, 76, 77] (by decide +kernel) (by decide +kernel)
set_option maxRecDepth 20000 in
theorem gX0_pass_X0_isLast : GoodIn wsX0_pass (wsV RX0 83 RX0 yX0_isLast wsX0_isLast) := goodIn_app (goodIn_of _ (by decide +kernel)) ggX0_pass_X0_isLast
set_option maxRecDepth 20000 in
theorem ggX0_pass_X0_goOut : GoodIn wsX0_pass wsX0_goOut := goodIn_r _ [33, 2, 34, 35, 3, 10, 11, 12, 7, 13, 14, 15, 16, 17, 18, 19, 20, 21, 22, 23, 24, 25, 36, 37, 38, 39, 40, 41, 42, 43, 44, 45, 46, 47, 48, 49, 50, 51, 52, 53, 54, 55, 56, 57, 58, 59, 68, 69, 70, 71, 72, 73, 74, 75, 76, 77] (by decide +kernel) (by decide +kernel)
set_option maxRecDepth 20000 in
theorem gX0_pass_X0_goOut : GoodIn wsX0_pass (wsV RX0 93 RX0 yX0_goOut wsX0_goOut) := goodIn_app (goodIn_of _ (by decide +kernel)) ggX0_pass_X0_goOut
set_option maxRecDepth 20000 in
theorem ggX0_pass_X0_goOn : GoodIn wsX0_pass wsX0_goOn := goodIn_r _ [63, 2, 3, 10, 11, 12, 7, 13, 14, 15, 16, 17, 18, 19, 20, 21, 22, 23, 24, 25, 64, 65, 66, 67, 40, 41, 42, 43, 44, 45, 46, 47, 48, 49, 50, 51, 52, 53, 54, 55, 56, 57, 58, 59, 36, 37, 38, 39, 68, 69, 70, 71, 72, 73, 74, 75, 76, 77] (by decide +kernel) (by decide +kernel)
set_option maxRecDepth 20000 in
theorem gX0_pass_X0_goOn : GoodIn wsX0_pass (wsV RX0 97 RX0 yX0_goOn wsX0_goOn) := goodIn_app (goodIn_of _ (by decide +kernel)) ggX0_pass_X0_goOn
theorem dX0_pass_0 : decode cX0_pass 0 = .ok (.aload_n 0, 1) := by decide +kernel
theorem dX0_pass_1 : decode cX0_pass 1 = .ok (.iload_n 1, 1) := by decide +kernel
theorem dX0_pass_2 : decode cX0_pass 2 = .ok (.invokevirtual 80, 3) := by decide +kernel
theorem dX0_pass_5 : decode cX0_pass 5 = .ok (.ifCond .ne 6, 3) := by decide +kernel
theorem dX0_pass_8 : decode cX0_pass 8 = .ok (.ldc 57, 2) := by decide +kernel
theorem dX0_pass_10 : decode cX0_pass 10 = .ok (.ireturn, 1) := by decide +kernel
theorem dX0_pass_11 : decode cX0_pass 11 = .ok (.aload_n 0, 1) := by decide +kernel
theorem dX0_pass_12 : decode cX0_pass 12 = .ok (.iconst 3, 1) := by decide +kernel
theorem dX0_pass_13 : decode cX0_pass 13 = .ok (.iload_n 1, 1) := by decide +kernel
theorem dX0_pass_14 : decode cX0_pass 14 = .ok (.invokevirtual 61, 3) := by decide +kernel
theorem dX0_pass_17 : decode cX0_pass 17 = .ok (.ifCond .eq 8, 3) := by decide +kernel
theorem dX0_pass_20 : decode cX0_pass 20 = .ok (.aload_n 0, 1) := by decide +kernel
theorem dX0_pass_21 : decode cX0_pass 21 = .ok (.getfield 37, 3) := by decide +kernel
theorem dX0_pass_24 : decode cX0_pass 24 = .ok (.ireturn, 1) := by decide +kernel
theorem dX0_pass_25 : decode cX0_pass 25 = .ok (.aload_n 0, 1) := by decide +kernel
theorem dX0_pass_26 : decode cX0_pass 26 = .ok (.getfield 15, 3) := by decide +kernel
theorem dX0_pass_29 : decode cX0_pass 29 = .ok (.iconst 3, 1) := by decide +kernel
theorem dX0_pass_30 : decode cX0_pass 30 = .ok (.aaload, 1) := by decide +kernel
theorem dX0_pass_31 : decode cX0_pass 31 = .ok (.iload_n 1, 1) := by decide +kernel
theorem dX0_pass_32 : decode cX0_pass 32 = .ok (.iaload, 1) := by decide +kernel
theorem dX0_pass_33 : decode cX0_pass 33 = .ok (.ifCond .ne 6, 3) := by decide +kernel
theorem dX0_pass_36 : decode cX0_pass 36 = .ok (.bipush (-2), 2) := by decide +kernel
theorem dX0_pass_38 : decode cX0_pass 38 = .ok (.ireturn, 1) := by decide +kernel
theorem dX0_pass_39 : decode cX0_pass 39 = .ok (.aload_n 0, 1) := by decide +kernel
theorem dX0_pass_40 : decode cX0_pass 40 = .ok (.iconst 0, 1) := by decide +kernel
theorem dX0_pass_41 : decode cX0_pass 41 = .ok (.iload_n 1, 1) := by decide +kernel
theorem dX0_pass_42 : decode cX0_pass 42 = .ok (.invokevirtual 61, 3) := by decide +kernel
theorem dX0_pass_45 : decode cX0_pass 45 = .ok (.ifCond .eq 8, 3) := by decide +kernel
theorem dX0_pass_48 : decode cX0_pass 48 = .ok (.aload_n 0, 1) := by decide +kernel
theorem dX0_pass_49 : decode cX0_pass 49 = .ok (.getfield 37, 3) := by decide +kernel
theorem dX0_pass_52 : decode cX0_pass 52 = .ok (.ireturn, 1) := by decide +kernel
theorem dX0_pass_53 : decode cX0_pass 53 = .ok (.aload_n 0, 1) := by decide +kernel
theorem dX0_pass_54 : decode cX0_pass 54 = .ok (.getfield 15, 3) := by decide +kernel
theorem dX0_pass_57 : decode cX0_pass 57 = .ok (.iconst 0, 1) := by decide +kernel
theorem dX0_pass_58 : decode cX0_pass 58 = .ok (.aaload, 1) := by decide +kernel
theorem dX0_pass_59 : decode cX0_pass 59 = .ok (.iload_n 1, 1) := by decide +kernel
theorem dX0_pass_60 : decode cX0_pass 60 = .ok (.iaload, 1) := by decide +kernel
theorem dX0_pass_61 : decode cX0_pass 61 = .ok (.ifCond .ne 6, 3) := by decide +kernel
theorem dX0_pass_64 : decode cX0_pass 64 = .ok (.bipush (-3), 2) := by decide +kernel
theorem dX0_pass_66 : decode cX0_pass 66 = .ok (.ireturn, 1) := by decide +kernel
theorem dX0_pass_67 : decode cX0_pass 67 = .ok (.aload_n 0, 1) := by decide +kernel
theorem dX0_pass_68 : decode cX0_pass 68 = .ok (.iload_n 1, 1) := by decide +kernel
theorem dX0_pass_69 : decode cX0_pass 69 = .ok (.invokevirtual 83, 3) := by decide +kernel
theorem dX0_pass_72 : decode cX0_pass 72 = .ok (.ifCond .eq 11, 3) := by decide +kernel
theorem dX0_pass_75 : decode cX0_pass 75 = .ok (.aload_n 0, 1) := by decide +kernel
theorem dX0_pass_76 : decode cX0_pass 76 = .ok (.iload_n 1, 1) := by decide +kernel
theorem dX0_pass_77 : decode cX0_pass 77 = .ok (.invokevirtual 93, 3) := by decide +kernel
theorem dX0_pass_80 : decode cX0_pass 80 = .ok (.goto 8, 3) := by decide +kernel
theorem dX0_pass_83 : decode cX0_pass 83 = .ok (.aload_n 0, 1) := by decide +kernel
theorem dX0_pass_84 : decode cX0_pass 84 = .ok (.iload_n 1, 1) := by decide +kernel
theorem dX0_pass_85 : decode cX0_pass 85 = .ok (.invokevirtual 97, 3) := by decide +kernel
theorem dX0_pass_88 : decode cX0_pass 88 = .ok (.ireturn, 1) := by decide +kernel
set_option maxRecDepth 20000 in
theorem ggX0_survey_J7_fill_53178 : GoodIn wsX0_survey wsJ7_fill_53178 := goodIn_r _ [7] (by decide +kernel) (by decide +kernel)
set_option maxRecDepth 20000 in
theorem gX0_survey_J7_fill_53178 : GoodIn wsX0_survey (va_wsS RX0 47 yJ7_fill_53178 wsJ7_fill_53178) := goodIn_app (goodIn_of _ (by decide +kernel)) ggX0_survey_J7_fill_53178
theorem dX0_survey_0 : decode cX0_survey 0 = .ok (.iload_n 1, 1) := by decide +kernel
theorem dX0_survey_1 : decode cX0_survey 1 = .ok (.bipush 24, 2) := by decide +kernel
theorem dX0_survey_3 : decode cX0_survey 3 = .ok (.if_icmp .gt 9, 3) := by decide +kernel
theorem dX0_survey_6 : decode cX0_survey 6 = .ok (.iload_n 2, 1) := by decide +kernel
theorem dX0_survey_7 : decode cX0_survey 7 = .ok (.bipush 24, 2) := by decide +kernel
theorem dX0_survey_9 : decode cX0_survey 9 = .ok (.if_icmp .le 6, 3) := by decide +kernel
theorem dX0_survey_12 : decode cX0_survey 12 = .ok (.bipush (-2), 2) := by decide +kernel
theorem dX0_survey_14 : decode cX0_survey 14 = .ok (.ireturn, 1) := by decide +kernel
theorem dX0_survey_15 : decode cX0_survey 15 = .ok (.iload_n 1, 1) := by decide +kernel
theorem dX0_survey_16 : decode cX0_survey 16 = .ok (.ifCond .lt 7, 3) := by decide +kernel
theorem dX0_survey_19 : decode cX0_survey 19 = .ok (.iload_n 2, 1) := by decide +kernel
theorem dX0_survey_20 : decode cX0_survey 20 = .ok (.ifCond .ge 6, 3) := by decide +kernel
theorem dX0_survey_23 : decode cX0_survey 23 = .ok (.bipush (-3), 2) := by decide +kernel
theorem dX0_survey_25 : decode cX0_survey 25 = .ok (.ireturn, 1) := by decide +kernel
theorem dX0_survey_26 : decode cX0_survey 26 = .ok (.iconst 0, 1) := by decide +kernel
theorem dX0_survey_27 : decode cX0_survey 27 = .ok (.istore_n 3, 1) := by decide +kernel
theorem dX0_survey_28 : decode cX0_survey 28 = .ok (.iload_n 3, 1) := by decide +kernel
theorem dX0_survey_29 : decode cX0_survey 29 = .ok (.iload_n 1, 1) := by decide +kernel
theorem dX0_survey_30 : decode cX0_survey 30 = .ok (.if_icmp .ge 19, 3) := by decide +kernel
theorem dX0_survey_33 : decode cX0_survey 33 = .ok (.aload_n 0, 1) := by decide +kernel
theorem dX0_survey_34 : decode cX0_survey 34 = .ok (.getfield 18, 3) := by decide +kernel
theorem dX0_survey_37 : decode cX0_survey 37 = .ok (.iload_n 3, 1) := by decide +kernel
theorem dX0_survey_38 : decode cX0_survey 38 = .ok (.aaload, 1) := by decide +kernel
theorem dX0_survey_39 : decode cX0_survey 39 = .ok (.iconst 0, 1) := by decide +kernel
theorem dX0_survey_40 : decode cX0_survey 40 = .ok (.invokestatic 47, 3) := by decide +kernel
theorem dX0_survey_43 : decode cX0_survey 43 = .ok (.iinc 3 1, 3) := by decide +kernel
theorem dX0_survey_46 : decode cX0_survey 46 = .ok (.goto (-18), 3) := by decide +kernel
theorem dX0_survey_49 : decode cX0_survey 49 = .ok (.aload_n 0, 1) := by decide +kernel
theorem dX0_survey_50 : decode cX0_survey 50 = .ok (.iload_n 1, 1) := by decide +kernel
theorem dX0_survey_51 : decode cX0_survey 51 = .ok (.putfield 21, 3) := by decide +kernel
theorem dX0_survey_54 : decode cX0_survey 54 = .ok (.aload_n 0, 1) := by decide +kernel
theorem dX0_survey_55 : decode cX0_survey 55 = .ok (.iload_n 2, 1) := by decide +kernel
theorem dX0_survey_56 : decode cX0_survey 56 = .ok (.putfield 25, 3) := by decide +kernel
theorem dX0_survey_59 : decode cX0_survey 59 = .ok (.iconst 0, 1) := by decide +kernel
theorem dX0_survey_60 : decode cX0_survey 60 = .ok (.ireturn, 1) := by decide +kernel
set_option maxRecDepth 20000 in
theorem ggX0_note_X0_isBook : GoodIn wsX0_note wsX0_isBook := goodIn_r _ [8] (by decide +kernel) (by decide +kernel)
set_option maxRecDepth 20000 in
theorem gX0_note_X0_isBook : GoodIn wsX0_note (va_wsS RX0 53 yX0_isBook wsX0_isBook) := goodIn_app (goodIn_of _ (by decide +kernel)) ggX0_note_X0_isBook
set_option maxRecDepth 20000 in
theorem ggX0_note_X0_endsAtLine : GoodIn wsX0_note wsX0_endsAtLine := goodIn_r _ [12, 13, 14, 15, 16, 17, 7, 18, 19, 20, 21, 22, 23, 24, 2, 38, 39, 40, 41, 42, 43, 44, 45, 46, 47] (by decide +kernel) (by decide +kernel)
set_option maxRecDepth 20000 in
theorem gX0_note_X0_endsAtLine : GoodIn wsX0_note (wsV RX0 61 RX0 yX0_endsAtLine wsX0_endsAtLine) := goodIn_app (goodIn_of _ (by decide +kernel)) ggX0_note_X0_endsAtLine
set_option maxRecDepth 20000 in
theorem ggX0_note_X0_endsAtPlace : GoodIn wsX0_note wsX0_endsAtPlace := goodIn_r _ [28, 29, 30, 31, 32, 33, 7, 34, 35, 36, 37, 20, 21, 22, 23, 24, 2, 38, 39, 40, 41, 42, 43, 44, 45, 46, 47] (by decide +kernel) (by decide +kernel)
set_option maxRecDepth 20000 in
theorem gX0_note_X0_endsAtPlace : GoodIn wsX0_note (wsV RX0 100 RX0 yX0_endsAtPlace wsX0_endsAtPlace) := goodIn_app (goodIn_of _ (by decide +kernel)) ggX0_note_X0_endsAtPlace
theorem dX0_note_0 : decode cX0_note 0 = .ok (.iload_n 1, 1) := by decide +kernel
theorem dX0_note_1 : decode cX0_note 1 = .ok (.invokestatic 53, 3) := by decide +kernel
theorem dX0_note_4 : decode cX0_note 4 = .ok (.ifCond .ne 6, 3) := by decide +kernel
theorem dX0_note_7 : decode cX0_note 7 = .ok (.ldc 57, 2) := by decide +kernel
theorem dX0_note_9 : decode cX0_note 9 = .ok (.ireturn, 1) := by decide +kernel
theorem dX0_note_10 : decode cX0_note 10 = .ok (.aload_n 0, 1) := by decide +kernel
theorem dX0_note_11 : decode cX0_note 11 = .ok (.iload_n 1, 1) := by decide +kernel
theorem dX0_note_12 : decode cX0_note 12 = .ok (.iload_n 2, 1) := by decide +kernel
theorem dX0_note_13 : decode cX0_note 13 = .ok (.invokevirtual 61, 3) := by decide +kernel
theorem dX0_note_16 : decode cX0_note 16 = .ok (.ifCond .ne 13, 3) := by decide +kernel
theorem dX0_note_19 : decode cX0_note 19 = .ok (.aload_n 0, 1) := by decide +kernel
theorem dX0_note_20 : decode cX0_note 20 = .ok (.iload_n 3, 1) := by decide +kernel
theorem dX0_note_21 : decode cX0_note 21 = .ok (.iload 4, 2) := by decide +kernel
theorem dX0_note_23 : decode cX0_note 23 = .ok (.invokevirtual 100, 3) := by decide +kernel
theorem dX0_note_26 : decode cX0_note 26 = .ok (.ifCond .eq 8, 3) := by decide +kernel
theorem dX0_note_29 : decode cX0_note 29 = .ok (.aload_n 0, 1) := by decide +kernel
theorem dX0_note_30 : decode cX0_note 30 = .ok (.getfield 37, 3) := by decide +kernel
theorem dX0_note_33 : decode cX0_note 33 = .ok (.ireturn, 1) := by decide +kernel
theorem dX0_note_34 : decode cX0_note 34 = .ok (.aload_n 0, 1) := by decide +kernel
theorem dX0_note_35 : decode cX0_note 35 = .ok (.getfield 18, 3) := by decide +kernel
theorem dX0_note_38 : decode cX0_note 38 = .ok (.iload_n 3, 1) := by decide +kernel
theorem dX0_note_39 : decode cX0_note 39 = .ok (.aaload, 1) := by decide +kernel
theorem dX0_note_40 : decode cX0_note 40 = .ok (.iload 4, 2) := by decide +kernel
theorem dX0_note_42 : decode cX0_note 42 = .ok (.aload_n 0, 1) := by decide +kernel
theorem dX0_note_43 : decode cX0_note 43 = .ok (.getfield 15, 3) := by decide +kernel
theorem dX0_note_46 : decode cX0_note 46 = .ok (.iload_n 1, 1) := by decide +kernel
theorem dX0_note_47 : decode cX0_note 47 = .ok (.aaload, 1) := by decide +kernel
theorem dX0_note_48 : decode cX0_note 48 = .ok (.iload_n 2, 1) := by decide +kernel
theorem dX0_note_49 : decode cX0_note 49 = .ok (.iaload, 1) := by decide +kernel
theorem dX0_note_50 : decode cX0_note 50 = .ok (.iastore, 1) := by decide +kernel
theorem dX0_note_51 : decode cX0_note 51 = .ok (.iconst 0, 1) := by decide +kernel
theorem dX0_note_52 : decode cX0_note 52 = .ok (.ireturn, 1) := by decide +kernel
set_option maxRecDepth 20000 in
theorem ggX0_chart_X0_endsAtPlace : GoodIn wsX0_chart wsX0_endsAtPlace := goodIn_r _ [7, 8, 9, 10, 11, 12, 6, 13, 14, 15, 16, 17, 18, 19, 20, 21, 1, 22, 23, 24, 25, 26, 27, 28, 29, 30, 31] (by decide +kernel) (by decide +kernel)
set_option maxRecDepth 20000 in
theorem gX0_chart_X0_endsAtPlace : GoodIn wsX0_chart (wsV RX0 100 RX0 yX0_endsAtPlace wsX0_endsAtPlace) := goodIn_app (goodIn_of _ (by decide +kernel)) ggX0_chart_X0_endsAtPlace
theorem dX0_chart_0 : decode cX0_chart 0 = .ok (.aload_n 0, 1) := by decide +kernel
theorem dX0_chart_1 : decode cX0_chart 1 = .ok (.iload_n 1, 1) := by decide +kernel
theorem dX0_chart_2 : decode cX0_chart 2 = .ok (.iload_n 2, 1) := by decide +kernel
theorem dX0_chart_3 : decode cX0_chart 3 = .ok (.invokevirtual 100, 3) := by decide +kernel
theorem dX0_chart_6 : decode cX0_chart 6 = .ok (.ifCond .eq 8, 3) := by decide +kernel
theorem dX0_chart_9 : decode cX0_chart 9 = .ok (.aload_n 0, 1) := by decide +kernel
theorem dX0_chart_10 : decode cX0_chart 10 = .ok (.getfield 37, 3) := by decide +kernel
theorem dX0_chart_13 : decode cX0_chart 13 = .ok (.ireturn, 1) := by decide +kernel
theorem dX0_chart_14 : decode cX0_chart 14 = .ok (.aload_n 0, 1) := by decide +kernel
theorem dX0_chart_15 : decode cX0_chart 15 = .ok (.getfield 18, 3) := by decide +kernel
theorem dX0_chart_18 : decode cX0_chart 18 = .ok (.iload_n 1, 1) := by decide +kernel
theorem dX0_chart_19 : decode cX0_chart 19 = .ok (.aaload, 1) := by decide +kernel
theorem dX0_chart_20 : decode cX0_chart 20 = .ok (.iload_n 2, 1) := by decide +kernel
theorem dX0_chart_21 : decode cX0_chart 21 = .ok (.iaload, 1) := by decide +kernel
theorem dX0_chart_22 : decode cX0_chart 22 = .ok (.ireturn, 1) := by decide +kernel
set_option maxRecDepth 20000 in
theorem ggX0_columns_X0_endsAtRow : GoodIn wsX0_columns wsX0_endsAtRow := goodIn_r _ [7, 8, 9, 10, 11, 12, 13, 6, 14, 15, 1, 16, 17, 18, 19, 20, 21, 22, 23, 24, 25] (by decide +kernel) (by decide +kernel)
set_option maxRecDepth 20000 in
theorem gX0_columns_X0_endsAtRow : GoodIn wsX0_columns (wsV RX0 103 RX0 yX0_endsAtRow wsX0_endsAtRow) := goodIn_app (goodIn_of _ (by decide +kernel)) ggX0_columns_X0_endsAtRow
theorem dX0_columns_0 : decode cX0_columns 0 = .ok (.aload_n 0, 1) := by decide +kernel
theorem dX0_columns_1 : decode cX0_columns 1 = .ok (.iload_n 1, 1) := by decide +kernel
theorem dX0_columns_2 : decode cX0_columns 2 = .ok (.invokevirtual 103, 3) := by decide +kernel
theorem dX0_columns_5 : decode cX0_columns 5 = .ok (.ifCond .eq 8, 3) := by decide +kernel
theorem dX0_columns_8 : decode cX0_columns 8 = .ok (.aload_n 0, 1) := by decide +kernel
theorem dX0_columns_9 : decode cX0_columns 9 = .ok (.getfield 37, 3) := by decide +kernel
theorem dX0_columns_12 : decode cX0_columns 12 = .ok (.ireturn, 1) := by decide +kernel
theorem dX0_columns_13 : decode cX0_columns 13 = .ok (.aload_n 0, 1) := by decide +kernel
theorem dX0_columns_14 : decode cX0_columns 14 = .ok (.getfield 25, 3) := by decide +kernel
theorem dX0_columns_17 : decode cX0_columns 17 = .ok (.ireturn, 1) := by decide +kernel
set_option maxRecDepth 20000 in
theorem ggX0_look_X0_booksKept : GoodIn wsX0_look wsX0_booksKept := goodIn_r _ [11, 12, 13, 14, 15, 16, 17, 18, 19, 20, 21, 22] (by decide +kernel) (by decide +kernel)
set_option maxRecDepth 20000 in
theorem gX0_look_X0_booksKept : GoodIn wsX0_look (wsV RX0 106 RX0 yX0_booksKept wsX0_booksKept) := goodIn_app (goodIn_of _ (by decide +kernel)) ggX0_look_X0_booksKept
theorem dX0_look_0 : decode cX0_look 0 = .ok (.iload_n 1, 1) := by decide +kernel
theorem dX0_look_1 : decode cX0_look 1 = .ok (.tableswitch 69 0 5 #[39, 44, 49, 54, 59, 64], 39) := by decide +kernel
theorem dX0_look_40 : decode cX0_look 40 = .ok (.aload_n 0, 1) := by decide +kernel
theorem dX0_look_41 : decode cX0_look 41 = .ok (.getfield 44, 3) := by decide +kernel
theorem dX0_look_44 : decode cX0_look 44 = .ok (.ireturn, 1) := by decide +kernel
theorem dX0_look_45 : decode cX0_look 45 = .ok (.aload_n 0, 1) := by decide +kernel
theorem dX0_look_46 : decode cX0_look 46 = .ok (.getfield 28, 3) := by decide +kernel
theorem dX0_look_49 : decode cX0_look 49 = .ok (.ireturn, 1) := by decide +kernel
theorem dX0_look_50 : decode cX0_look 50 = .ok (.aload_n 0, 1) := by decide +kernel
theorem dX0_look_51 : decode cX0_look 51 = .ok (.getfield 31, 3) := by decide +kernel
theorem dX0_look_54 : decode cX0_look 54 = .ok (.ireturn, 1) := by decide +kernel
theorem dX0_look_55 : decode cX0_look 55 = .ok (.aload_n 0, 1) := by decide +kernel
theorem dX0_look_56 : decode cX0_look 56 = .ok (.getfield 34, 3) := by decide +kernel
theorem dX0_look_59 : decode cX0_look 59 = .ok (.ireturn, 1) := by decide +kernel
theorem dX0_look_60 : decode cX0_look 60 = .ok (.aload_n 0, 1) := by decide +kernel
theorem dX0_look_61 : decode cX0_look 61 = .ok (.getfield 37, 3) := by decide +kernel
theorem dX0_look_64 : decode cX0_look 64 = .ok (.ireturn, 1) := by decide +kernel
theorem dX0_look_65 : decode cX0_look 65 = .ok (.aload_n 0, 1) := by decide +kernel
theorem dX0_look_66 : decode cX0_look 66 = .ok (.invokevirtual 106, 3) := by decide +kernel
theorem dX0_look_69 : decode cX0_look 69 = .ok (.ireturn, 1) := by decide +kernel
theorem dX0_look_70 : decode cX0_look 70 = .ok (.ldc 57, 2) := by decide +kernel
theorem dX0_look_72 : decode cX0_look 72 = .ok (.ireturn, 1) := by decide +kernel
theorem dX0_isBook_0 : decode cX0_isBook 0 = .ok (.iload_n 0, 1) := by decide +kernel
theorem dX0_isBook_1 : decode cX0_isBook 1 = .ok (.ifCond .lt 12, 3) := by decide +kernel
theorem dX0_isBook_4 : decode cX0_isBook 4 = .ok (.iload_n 0, 1) := by decide +kernel
theorem dX0_isBook_5 : decode cX0_isBook 5 = .ok (.iconst 5, 1) := by decide +kernel
theorem dX0_isBook_6 : decode cX0_isBook 6 = .ok (.if_icmp .ge 7, 3) := by decide +kernel
theorem dX0_isBook_9 : decode cX0_isBook 9 = .ok (.iconst 1, 1) := by decide +kernel
theorem dX0_isBook_10 : decode cX0_isBook 10 = .ok (.goto 4, 3) := by decide +kernel
theorem dX0_isBook_13 : decode cX0_isBook 13 = .ok (.iconst 0, 1) := by decide +kernel
theorem dX0_isBook_14 : decode cX0_isBook 14 = .ok (.ireturn, 1) := by decide +kernel
theorem dX0_isChamber_0 : decode cX0_isChamber 0 = .ok (.iload_n 1, 1) := by decide +kernel
theorem dX0_isChamber_1 : decode cX0_isChamber 1 = .ok (.ifCond .lt 15, 3) := by decide +kernel
theorem dX0_isChamber_4 : decode cX0_isChamber 4 = .ok (.iload_n 1, 1) := by decide +kernel
theorem dX0_isChamber_5 : decode cX0_isChamber 5 = .ok (.aload_n 0, 1) := by decide +kernel
theorem dX0_isChamber_6 : decode cX0_isChamber 6 = .ok (.getfield 44, 3) := by decide +kernel
theorem dX0_isChamber_9 : decode cX0_isChamber 9 = .ok (.if_icmp .ge 7, 3) := by decide +kernel
theorem dX0_isChamber_12 : decode cX0_isChamber 12 = .ok (.iconst 1, 1) := by decide +kernel
theorem dX0_isChamber_13 : decode cX0_isChamber 13 = .ok (.goto 4, 3) := by decide +kernel
theorem dX0_isChamber_16 : decode cX0_isChamber 16 = .ok (.iconst 0, 1) := by decide +kernel
theorem dX0_isChamber_17 : decode cX0_isChamber 17 = .ok (.ireturn, 1) := by decide +kernel
theorem dX0_isLast_0 : decode cX0_isLast 0 = .ok (.iload_n 1, 1) := by decide +kernel
theorem dX0_isLast_1 : decode cX0_isLast 1 = .ok (.aload_n 0, 1) := by decide +kernel
theorem dX0_isLast_2 : decode cX0_isLast 2 = .ok (.getfield 44, 3) := by decide +kernel
theorem dX0_isLast_5 : decode cX0_isLast 5 = .ok (.iconst 1, 1) := by decide +kernel
theorem dX0_isLast_6 : decode cX0_isLast 6 = .ok (.isub, 1) := by decide +kernel
theorem dX0_isLast_7 : decode cX0_isLast 7 = .ok (.if_icmp .ne 7, 3) := by decide +kernel
theorem dX0_isLast_10 : decode cX0_isLast 10 = .ok (.iconst 1, 1) := by decide +kernel
theorem dX0_isLast_11 : decode cX0_isLast 11 = .ok (.goto 4, 3) := by decide +kernel
theorem dX0_isLast_14 : decode cX0_isLast 14 = .ok (.iconst 0, 1) := by decide +kernel
theorem dX0_isLast_15 : decode cX0_isLast 15 = .ok (.ireturn, 1) := by decide +kernel
theorem dX0_isToldLoad_0 : decode cX0_isToldLoad 0 = .ok (.iload_n 0, 1) := by decide +kernel
theorem dX0_isToldLoad_1 : decode cX0_isToldLoad 1 = .ok (.sipush (-16000), 3) := by decide +kernel
theorem dX0_isToldLoad_4 : decode cX0_isToldLoad 4 = .ok (.if_icmp .lt 14, 3) := by decide +kernel
theorem dX0_isToldLoad_7 : decode cX0_isToldLoad 7 = .ok (.iload_n 0, 1) := by decide +kernel
theorem dX0_isToldLoad_8 : decode cX0_isToldLoad 8 = .ok (.sipush 16000, 3) := by decide +kernel
theorem dX0_isToldLoad_11 : decode cX0_isToldLoad 11 = .ok (.if_icmp .gt 7, 3) := by decide +kernel
theorem dX0_isToldLoad_14 : decode cX0_isToldLoad 14 = .ok (.iconst 1, 1) := by decide +kernel
theorem dX0_isToldLoad_15 : decode cX0_isToldLoad 15 = .ok (.goto 4, 3) := by decide +kernel
theorem dX0_isToldLoad_18 : decode cX0_isToldLoad 18 = .ok (.iconst 0, 1) := by decide +kernel
theorem dX0_isToldLoad_19 : decode cX0_isToldLoad 19 = .ok (.ireturn, 1) := by decide +kernel
set_option maxRecDepth 20000 in
theorem ggX0_endsAtBook_X0_ended : GoodIn wsX0_endsAtBook wsX0_ended := goodIn_r _ [7, 8, 9, 10, 11, 12, 13, 14, 15, 16, 17, 18, 19] (by decide +kernel) (by decide +kernel)
set_option maxRecDepth 20000 in
theorem gX0_endsAtBook_X0_ended : GoodIn wsX0_endsAtBook (wsV RX0 111 RX0 yX0_ended wsX0_ended) := goodIn_app (goodIn_of _ (by decide +kernel)) ggX0_endsAtBook_X0_ended
theorem dX0_endsAtBook_0 : decode cX0_endsAtBook 0 = .ok (.aload_n 0, 1) := by decide +kernel
theorem dX0_endsAtBook_1 : decode cX0_endsAtBook 1 = .ok (.getfield 9, 3) := by decide +kernel
theorem dX0_endsAtBook_4 : decode cX0_endsAtBook 4 = .ok (.iload_n 1, 1) := by decide +kernel
theorem dX0_endsAtBook_5 : decode cX0_endsAtBook 5 = .ok (.iaload, 1) := by decide +kernel
theorem dX0_endsAtBook_6 : decode cX0_endsAtBook 6 = .ok (.iconst (-1), 1) := by decide +kernel
theorem dX0_endsAtBook_7 : decode cX0_endsAtBook 7 = .ok (.if_icmp .ne 12, 3) := by decide +kernel
theorem dX0_endsAtBook_10 : decode cX0_endsAtBook 10 = .ok (.aload_n 0, 1) := by decide +kernel
theorem dX0_endsAtBook_11 : decode cX0_endsAtBook 11 = .ok (.ldc 110, 2) := by decide +kernel
theorem dX0_endsAtBook_13 : decode cX0_endsAtBook 13 = .ok (.iload_n 1, 1) := by decide +kernel
theorem dX0_endsAtBook_14 : decode cX0_endsAtBook 14 = .ok (.isub, 1) := by decide +kernel
theorem dX0_endsAtBook_15 : decode cX0_endsAtBook 15 = .ok (.invokevirtual 111, 3) := by decide +kernel
theorem dX0_endsAtBook_18 : decode cX0_endsAtBook 18 = .ok (.ireturn, 1) := by decide +kernel
theorem dX0_endsAtBook_19 : decode cX0_endsAtBook 19 = .ok (.iconst 0, 1) := by decide +kernel
theorem dX0_endsAtBook_20 : decode cX0_endsAtBook 20 = .ok (.ireturn, 1) := by decide +kernel
set_option maxRecDepth 20000 in
theorem ggX0_endsAtLine_X0_endsAtBook : GoodIn wsX0_endsAtLine wsX0_endsAtBook := goodIn_r _ [7, 1, 8, 9, 10, 11, 6, 12, 13, 14, 15, 16, 17, 18, 19, 20, 21, 22, 23, 24] (by decide +kernel) (by decide +kernel)
set_option maxRecDepth 20000 in
theorem gX0_endsAtLine_X0_endsAtBook : GoodIn wsX0_endsAtLine (wsV RX0 58 RX0 yX0_endsAtBook wsX0_endsAtBook) := goodIn_app (goodIn_of _ (by decide +kernel)) ggX0_endsAtLine_X0_endsAtBook
set_option maxRecDepth 20000 in
theorem ggX0_endsAtLine_X0_ended : GoodIn wsX0_endsAtLine wsX0_ended := goodIn_r _ [12, 13, 14, 15, 16, 17, 18, 19, 20, 21, 22, 23, 24] (by decide +kernel) (by decide +kernel)
set_option maxRecDepth 20000 in
theorem gX0_endsAtLine_X0_ended : GoodIn wsX0_endsAtLine (wsV RX0 111 RX0 yX0_ended wsX0_ended) := goodIn_app (goodIn_of _ (by decide +kernel)) ggX0_endsAtLine_X0_ended
theorem dX0_endsAtLine_0 : decode cX0_endsAtLine 0 = .ok (.aload_n 0, 1) := by decide +kernel
theorem dX0_endsAtLine_1 : decode cX0_endsAtLine 1 = .ok (.iload_n 1, 1) := by decide +kernel
theorem dX0_endsAtLine_2 : decode cX0_endsAtLine 2 = .ok (.invokevirtual 58, 3) := by decide +kernel
theorem dX0_endsAtLine_5 : decode cX0_endsAtLine 5 = .ok (.ifCond .eq 5, 3) := by decide +kernel
theorem dX0_endsAtLine_8 : decode cX0_endsAtLine 8 = .ok (.iconst 1, 1) := by decide +kernel
theorem dX0_endsAtLine_9 : decode cX0_endsAtLine 9 = .ok (.ireturn, 1) := by decide +kernel
theorem dX0_endsAtLine_10 : decode cX0_endsAtLine 10 = .ok (.iload_n 2, 1) := by decide +kernel
theorem dX0_endsAtLine_11 : decode cX0_endsAtLine 11 = .ok (.ifCond .lt 13, 3) := by decide +kernel
theorem dX0_endsAtLine_14 : decode cX0_endsAtLine 14 = .ok (.iload_n 2, 1) := by decide +kernel
theorem dX0_endsAtLine_15 : decode cX0_endsAtLine 15 = .ok (.aload_n 0, 1) := by decide +kernel
theorem dX0_endsAtLine_16 : decode cX0_endsAtLine 16 = .ok (.getfield 9, 3) := by decide +kernel
theorem dX0_endsAtLine_19 : decode cX0_endsAtLine 19 = .ok (.iload_n 1, 1) := by decide +kernel
theorem dX0_endsAtLine_20 : decode cX0_endsAtLine 20 = .ok (.iaload, 1) := by decide +kernel
theorem dX0_endsAtLine_21 : decode cX0_endsAtLine 21 = .ok (.if_icmp .lt 12, 3) := by decide +kernel
theorem dX0_endsAtLine_24 : decode cX0_endsAtLine 24 = .ok (.aload_n 0, 1) := by decide +kernel
theorem dX0_endsAtLine_25 : decode cX0_endsAtLine 25 = .ok (.ldc 114, 2) := by decide +kernel
theorem dX0_endsAtLine_27 : decode cX0_endsAtLine 27 = .ok (.iload_n 1, 1) := by decide +kernel
theorem dX0_endsAtLine_28 : decode cX0_endsAtLine 28 = .ok (.isub, 1) := by decide +kernel
theorem dX0_endsAtLine_29 : decode cX0_endsAtLine 29 = .ok (.invokevirtual 111, 3) := by decide +kernel
theorem dX0_endsAtLine_32 : decode cX0_endsAtLine 32 = .ok (.ireturn, 1) := by decide +kernel
theorem dX0_endsAtLine_33 : decode cX0_endsAtLine 33 = .ok (.iconst 0, 1) := by decide +kernel
theorem dX0_endsAtLine_34 : decode cX0_endsAtLine 34 = .ok (.ireturn, 1) := by decide +kernel
set_option maxRecDepth 20000 in
theorem ggX0_endsAtRow_X0_ended : GoodIn wsX0_endsAtRow wsX0_ended := goodIn_r _ [8, 9, 10, 11, 12, 13, 14, 15, 16, 17, 18, 19, 20] (by decide +kernel) (by decide +kernel)
set_option maxRecDepth 20000 in
theorem gX0_endsAtRow_X0_ended : GoodIn wsX0_endsAtRow (wsV RX0 111 RX0 yX0_ended wsX0_ended) := goodIn_app (goodIn_of _ (by decide +kernel)) ggX0_endsAtRow_X0_ended
theorem dX0_endsAtRow_0 : decode cX0_endsAtRow 0 = .ok (.aload_n 0, 1) := by decide +kernel
theorem dX0_endsAtRow_1 : decode cX0_endsAtRow 1 = .ok (.getfield 21, 3) := by decide +kernel
theorem dX0_endsAtRow_4 : decode cX0_endsAtRow 4 = .ok (.iconst (-1), 1) := by decide +kernel
theorem dX0_endsAtRow_5 : decode cX0_endsAtRow 5 = .ok (.if_icmp .ne 10, 3) := by decide +kernel
theorem dX0_endsAtRow_8 : decode cX0_endsAtRow 8 = .ok (.aload_n 0, 1) := by decide +kernel
theorem dX0_endsAtRow_9 : decode cX0_endsAtRow 9 = .ok (.ldc 115, 2) := by decide +kernel
theorem dX0_endsAtRow_11 : decode cX0_endsAtRow 11 = .ok (.invokevirtual 111, 3) := by decide +kernel
theorem dX0_endsAtRow_14 : decode cX0_endsAtRow 14 = .ok (.ireturn, 1) := by decide +kernel
theorem dX0_endsAtRow_15 : decode cX0_endsAtRow 15 = .ok (.iload_n 1, 1) := by decide +kernel
theorem dX0_endsAtRow_16 : decode cX0_endsAtRow 16 = .ok (.ifCond .lt 11, 3) := by decide +kernel
theorem dX0_endsAtRow_19 : decode cX0_endsAtRow 19 = .ok (.iload_n 1, 1) := by decide +kernel
theorem dX0_endsAtRow_20 : decode cX0_endsAtRow 20 = .ok (.aload_n 0, 1) := by decide +kernel
theorem dX0_endsAtRow_21 : decode cX0_endsAtRow 21 = .ok (.getfield 21, 3) := by decide +kernel
theorem dX0_endsAtRow_24 : decode cX0_endsAtRow 24 = .ok (.if_icmp .lt 10, 3) := by decide +kernel
theorem dX0_endsAtRow_27 : decode cX0_endsAtRow 27 = .ok (.aload_n 0, 1) := by decide +kernel
theorem dX0_endsAtRow_28 : decode cX0_endsAtRow 28 = .ok (.ldc 116, 2) := by decide +kernel
theorem dX0_endsAtRow_30 : decode cX0_endsAtRow 30 = .ok (.invokevirtual 111, 3) := by decide +kernel
theorem dX0_endsAtRow_33 : decode cX0_endsAtRow 33 = .ok (.ireturn, 1) := by decide +kernel
theorem dX0_endsAtRow_34 : decode cX0_endsAtRow 34 = .ok (.iconst 0, 1) := by decide +kernel
theorem dX0_endsAtRow_35 : decode cX0_endsAtRow 35 = .ok (.ireturn, 1) := by decide +kernel
set_option maxRecDepth 20000 in
theorem ggX0_endsAtPlace_X0_endsAtRow : GoodIn wsX0_endsAtPlace wsX0_endsAtRow := goodIn_r _ [7, 8, 9, 10, 11, 12, 13, 6, 14, 15, 16, 17, 18, 19, 20, 21, 22, 23, 24, 25, 26] (by decide +kernel) (by decide +kernel)
set_option maxRecDepth 20000 in
theorem gX0_endsAtPlace_X0_endsAtRow : GoodIn wsX0_endsAtPlace (wsV RX0 103 RX0 yX0_endsAtRow wsX0_endsAtRow) := goodIn_app (goodIn_of _ (by decide +kernel)) ggX0_endsAtPlace_X0_endsAtRow
set_option maxRecDepth 20000 in
theorem ggX0_endsAtPlace_X0_ended : GoodIn wsX0_endsAtPlace wsX0_ended := goodIn_r _ [14, 15, 16, 17, 18, 19, 20, 21, 22, 23, 24, 25, 26] (by decide +kernel) (by decide +kernel)
set_option maxRecDepth 20000 in
theorem gX0_endsAtPlace_X0_ended : GoodIn wsX0_endsAtPlace (wsV RX0 111 RX0 yX0_ended wsX0_ended) := goodIn_app (goodIn_of _ (by decide +kernel)) ggX0_endsAtPlace_X0_ended
theorem dX0_endsAtPlace_0 : decode cX0_endsAtPlace 0 = .ok (.aload_n 0, 1) := by decide +kernel
theorem dX0_endsAtPlace_1 : decode cX0_endsAtPlace 1 = .ok (.iload_n 1, 1) := by decide +kernel
theorem dX0_endsAtPlace_2 : decode cX0_endsAtPlace 2 = .ok (.invokevirtual 103, 3) := by decide +kernel
theorem dX0_endsAtPlace_5 : decode cX0_endsAtPlace 5 = .ok (.ifCond .eq 5, 3) := by decide +kernel
theorem dX0_endsAtPlace_8 : decode cX0_endsAtPlace 8 = .ok (.iconst 1, 1) := by decide +kernel
theorem dX0_endsAtPlace_9 : decode cX0_endsAtPlace 9 = .ok (.ireturn, 1) := by decide +kernel
theorem dX0_endsAtPlace_10 : decode cX0_endsAtPlace 10 = .ok (.iload_n 2, 1) := by decide +kernel
theorem dX0_endsAtPlace_11 : decode cX0_endsAtPlace 11 = .ok (.ifCond .lt 11, 3) := by decide +kernel
theorem dX0_endsAtPlace_14 : decode cX0_endsAtPlace 14 = .ok (.iload_n 2, 1) := by decide +kernel
theorem dX0_endsAtPlace_15 : decode cX0_endsAtPlace 15 = .ok (.aload_n 0, 1) := by decide +kernel
theorem dX0_endsAtPlace_16 : decode cX0_endsAtPlace 16 = .ok (.getfield 25, 3) := by decide +kernel
theorem dX0_endsAtPlace_19 : decode cX0_endsAtPlace 19 = .ok (.if_icmp .lt 10, 3) := by decide +kernel
theorem dX0_endsAtPlace_22 : decode cX0_endsAtPlace 22 = .ok (.aload_n 0, 1) := by decide +kernel
theorem dX0_endsAtPlace_23 : decode cX0_endsAtPlace 23 = .ok (.ldc 117, 2) := by decide +kernel
theorem dX0_endsAtPlace_25 : decode cX0_endsAtPlace 25 = .ok (.invokevirtual 111, 3) := by decide +kernel
theorem dX0_endsAtPlace_28 : decode cX0_endsAtPlace 28 = .ok (.ireturn, 1) := by decide +kernel
theorem dX0_endsAtPlace_29 : decode cX0_endsAtPlace 29 = .ok (.iconst 0, 1) := by decide +kernel
theorem dX0_endsAtPlace_30 : decode cX0_endsAtPlace 30 = .ok (.ireturn, 1) := by decide +kernel
set_option maxRecDepth 20000 in
theorem ggX0_endsAtArrival_X0_endsAtLine : GoodIn wsX0_endsAtArrival wsX0_endsAtLine := goodIn_r _ [6, 7, 8, 9, 10, 11, 5, 12, 13, 14, 15, 16, 17, 18, 19, 40, 41, 42, 43, 44, 45, 46, 47, 48, 49] (by decide +kernel) (by decide +kernel)
set_option maxRecDepth 20000 in
theorem gX0_endsAtArrival_X0_endsAtLine : GoodIn wsX0_endsAtArrival (wsV RX0 61 RX0 yX0_endsAtLine wsX0_endsAtLine) := goodIn_app (goodIn_of _ (by decide +kernel)) ggX0_endsAtArrival_X0_endsAtLine
set_option maxRecDepth 20000 in
theorem ggX0_endsAtArrival_X0_put : GoodIn wsX0_endsAtArrival wsX0_put := goodIn_r _ [23, 1, 24, 25, 5, 26, 27, 28, 29, 30, 31, 32, 33, 34, 35, 36, 37, 38, 39, 40, 41, 42, 43, 44, 45, 46, 47, 48, 49] (by decide +kernel) (by decide +kernel)
set_option maxRecDepth 20000 in
theorem gX0_endsAtArrival_X0_put : GoodIn wsX0_endsAtArrival (wsV RX0 68 RX0 yX0_put wsX0_put) := goodIn_app (goodIn_of _ (by decide +kernel)) ggX0_endsAtArrival_X0_put
theorem dX0_endsAtArrival_0 : decode cX0_endsAtArrival 0 = .ok (.aload_n 0, 1) := by decide +kernel
theorem dX0_endsAtArrival_1 : decode cX0_endsAtArrival 1 = .ok (.iconst 2, 1) := by decide +kernel
theorem dX0_endsAtArrival_2 : decode cX0_endsAtArrival 2 = .ok (.iload_n 1, 1) := by decide +kernel
theorem dX0_endsAtArrival_3 : decode cX0_endsAtArrival 3 = .ok (.invokevirtual 61, 3) := by decide +kernel
theorem dX0_endsAtArrival_6 : decode cX0_endsAtArrival 6 = .ok (.ifCond .eq 5, 3) := by decide +kernel
theorem dX0_endsAtArrival_9 : decode cX0_endsAtArrival 9 = .ok (.iconst 1, 1) := by decide +kernel
theorem dX0_endsAtArrival_10 : decode cX0_endsAtArrival 10 = .ok (.ireturn, 1) := by decide +kernel
theorem dX0_endsAtArrival_11 : decode cX0_endsAtArrival 11 = .ok (.aload_n 0, 1) := by decide +kernel
theorem dX0_endsAtArrival_12 : decode cX0_endsAtArrival 12 = .ok (.iconst 2, 1) := by decide +kernel
theorem dX0_endsAtArrival_13 : decode cX0_endsAtArrival 13 = .ok (.iload_n 1, 1) := by decide +kernel
theorem dX0_endsAtArrival_14 : decode cX0_endsAtArrival 14 = .ok (.iload_n 3, 1) := by decide +kernel
theorem dX0_endsAtArrival_15 : decode cX0_endsAtArrival 15 = .ok (.invokevirtual 68, 3) := by decide +kernel
theorem dX0_endsAtArrival_18 : decode cX0_endsAtArrival 18 = .ok (.aload_n 0, 1) := by decide +kernel
theorem dX0_endsAtArrival_19 : decode cX0_endsAtArrival 19 = .ok (.iconst 0, 1) := by decide +kernel
theorem dX0_endsAtArrival_20 : decode cX0_endsAtArrival 20 = .ok (.iload_n 1, 1) := by decide +kernel
theorem dX0_endsAtArrival_21 : decode cX0_endsAtArrival 21 = .ok (.invokevirtual 61, 3) := by decide +kernel
theorem dX0_endsAtArrival_24 : decode cX0_endsAtArrival 24 = .ok (.ifCond .eq 5, 3) := by decide +kernel
theorem dX0_endsAtArrival_27 : decode cX0_endsAtArrival 27 = .ok (.iconst 1, 1) := by decide +kernel
theorem dX0_endsAtArrival_28 : decode cX0_endsAtArrival 28 = .ok (.ireturn, 1) := by decide +kernel
theorem dX0_endsAtArrival_29 : decode cX0_endsAtArrival 29 = .ok (.aload_n 0, 1) := by decide +kernel
theorem dX0_endsAtArrival_30 : decode cX0_endsAtArrival 30 = .ok (.iconst 0, 1) := by decide +kernel
theorem dX0_endsAtArrival_31 : decode cX0_endsAtArrival 31 = .ok (.iload_n 1, 1) := by decide +kernel
theorem dX0_endsAtArrival_32 : decode cX0_endsAtArrival 32 = .ok (.iload_n 2, 1) := by decide +kernel
theorem dX0_endsAtArrival_33 : decode cX0_endsAtArrival 33 = .ok (.invokevirtual 68, 3) := by decide +kernel
theorem dX0_endsAtArrival_36 : decode cX0_endsAtArrival 36 = .ok (.aload_n 0, 1) := by decide +kernel
theorem dX0_endsAtArrival_37 : decode cX0_endsAtArrival 37 = .ok (.iconst 4, 1) := by decide +kernel
theorem dX0_endsAtArrival_38 : decode cX0_endsAtArrival 38 = .ok (.iload_n 1, 1) := by decide +kernel
theorem dX0_endsAtArrival_39 : decode cX0_endsAtArrival 39 = .ok (.invokevirtual 61, 3) := by decide +kernel
theorem dX0_endsAtArrival_42 : decode cX0_endsAtArrival 42 = .ok (.ifCond .eq 5, 3) := by decide +kernel
theorem dX0_endsAtArrival_45 : decode cX0_endsAtArrival 45 = .ok (.iconst 1, 1) := by decide +kernel
theorem dX0_endsAtArrival_46 : decode cX0_endsAtArrival 46 = .ok (.ireturn, 1) := by decide +kernel
theorem dX0_endsAtArrival_47 : decode cX0_endsAtArrival 47 = .ok (.aload_n 0, 1) := by decide +kernel
theorem dX0_endsAtArrival_48 : decode cX0_endsAtArrival 48 = .ok (.iconst 4, 1) := by decide +kernel
theorem dX0_endsAtArrival_49 : decode cX0_endsAtArrival 49 = .ok (.iload_n 1, 1) := by decide +kernel
theorem dX0_endsAtArrival_50 : decode cX0_endsAtArrival 50 = .ok (.aload_n 0, 1) := by decide +kernel
theorem dX0_endsAtArrival_51 : decode cX0_endsAtArrival 51 = .ok (.getfield 15, 3) := by decide +kernel
theorem dX0_endsAtArrival_54 : decode cX0_endsAtArrival 54 = .ok (.iconst 4, 1) := by decide +kernel
theorem dX0_endsAtArrival_55 : decode cX0_endsAtArrival 55 = .ok (.aaload, 1) := by decide +kernel
theorem dX0_endsAtArrival_56 : decode cX0_endsAtArrival 56 = .ok (.iload_n 1, 1) := by decide +kernel
theorem dX0_endsAtArrival_57 : decode cX0_endsAtArrival 57 = .ok (.iaload, 1) := by decide +kernel
theorem dX0_endsAtArrival_58 : decode cX0_endsAtArrival 58 = .ok (.iconst 1, 1) := by decide +kernel
theorem dX0_endsAtArrival_59 : decode cX0_endsAtArrival 59 = .ok (.iadd, 1) := by decide +kernel
theorem dX0_endsAtArrival_60 : decode cX0_endsAtArrival 60 = .ok (.invokevirtual 68, 3) := by decide +kernel
theorem dX0_endsAtArrival_63 : decode cX0_endsAtArrival 63 = .ok (.iconst 0, 1) := by decide +kernel
theorem dX0_endsAtArrival_64 : decode cX0_endsAtArrival 64 = .ok (.ireturn, 1) := by decide +kernel
theorem dX0_ended_0 : decode cX0_ended 0 = .ok (.aload_n 0, 1) := by decide +kernel
theorem dX0_ended_1 : decode cX0_ended 1 = .ok (.dup, 1) := by decide +kernel
theorem dX0_ended_2 : decode cX0_ended 2 = .ok (.getfield 34, 3) := by decide +kernel
theorem dX0_ended_5 : decode cX0_ended 5 = .ok (.iconst 1, 1) := by decide +kernel
theorem dX0_ended_6 : decode cX0_ended 6 = .ok (.iadd, 1) := by decide +kernel
theorem dX0_ended_7 : decode cX0_ended 7 = .ok (.putfield 34, 3) := by decide +kernel
theorem dX0_ended_10 : decode cX0_ended 10 = .ok (.aload_n 0, 1) := by decide +kernel
theorem dX0_ended_11 : decode cX0_ended 11 = .ok (.iload_n 1, 1) := by decide +kernel
theorem dX0_ended_12 : decode cX0_ended 12 = .ok (.putfield 37, 3) := by decide +kernel
theorem dX0_ended_15 : decode cX0_ended 15 = .ok (.iconst 1, 1) := by decide +kernel
theorem dX0_ended_16 : decode cX0_ended 16 = .ok (.ireturn, 1) := by decide +kernel
set_option maxRecDepth 20000 in
theorem ggX0_put_X0_cut : GoodIn wsX0_put wsX0_cut := goodIn_r _ [5, 6, 7, 8, 9, 10, 4, 11, 12, 13, 14, 15, 16, 17, 18] (by decide +kernel) (by decide +kernel)
set_option maxRecDepth 20000 in
theorem gX0_put_X0_cut : GoodIn wsX0_put (va_wsS RX0 86 yX0_cut wsX0_cut) := goodIn_app (goodIn_of _ (by decide +kernel)) ggX0_put_X0_cut
theorem dX0_put_0 : decode cX0_put 0 = .ok (.aload_n 0, 1) := by decide +kernel
theorem dX0_put_1 : decode cX0_put 1 = .ok (.getfield 15, 3) := by decide +kernel
theorem dX0_put_4 : decode cX0_put 4 = .ok (.iload_n 1, 1) := by decide +kernel
theorem dX0_put_5 : decode cX0_put 5 = .ok (.aaload, 1) := by decide +kernel
theorem dX0_put_6 : decode cX0_put 6 = .ok (.iload_n 2, 1) := by decide +kernel
theorem dX0_put_7 : decode cX0_put 7 = .ok (.iload_n 1, 1) := by decide +kernel
theorem dX0_put_8 : decode cX0_put 8 = .ok (.iload_n 3, 1) := by decide +kernel
theorem dX0_put_9 : decode cX0_put 9 = .ok (.invokestatic 86, 3) := by decide +kernel
theorem dX0_put_12 : decode cX0_put 12 = .ok (.iastore, 1) := by decide +kernel
theorem dX0_put_13 : decode cX0_put 13 = .ok (.return_, 1) := by decide +kernel
set_option maxRecDepth 20000 in
theorem ggX0_cut_X0_nearest : GoodIn wsX0_cut wsX0_nearest := goodIn_r _ [7, 8, 9, 10, 11, 12, 13, 14] (by decide +kernel) (by decide +kernel)
set_option maxRecDepth 20000 in
theorem gX0_cut_X0_nearest : GoodIn wsX0_cut (va_wsS RX0 40 yX0_nearest wsX0_nearest) := goodIn_app (goodIn_of _ (by decide +kernel)) ggX0_cut_X0_nearest
theorem dX0_cut_0 : decode cX0_cut 0 = .ok (.iload_n 0, 1) := by decide +kernel
theorem dX0_cut_1 : decode cX0_cut 1 = .ok (.tableswitch 52 0 3 #[31, 36, 39, 48], 31) := by decide +kernel
theorem dX0_cut_32 : decode cX0_cut 32 = .ok (.iload_n 1, 1) := by decide +kernel
theorem dX0_cut_33 : decode cX0_cut 33 = .ok (.ldc 118, 2) := by decide +kernel
theorem dX0_cut_35 : decode cX0_cut 35 = .ok (.iand, 1) := by decide +kernel
theorem dX0_cut_36 : decode cX0_cut 36 = .ok (.ireturn, 1) := by decide +kernel
theorem dX0_cut_37 : decode cX0_cut 37 = .ok (.iload_n 1, 1) := by decide +kernel
theorem dX0_cut_38 : decode cX0_cut 38 = .ok (.i2s, 1) := by decide +kernel
theorem dX0_cut_39 : decode cX0_cut 39 = .ok (.ireturn, 1) := by decide +kernel
theorem dX0_cut_40 : decode cX0_cut 40 = .ok (.iload_n 1, 1) := by decide +kernel
theorem dX0_cut_41 : decode cX0_cut 41 = .ok (.ldc 119, 2) := by decide +kernel
theorem dX0_cut_43 : decode cX0_cut 43 = .ok (.ldc 120, 2) := by decide +kernel
theorem dX0_cut_45 : decode cX0_cut 45 = .ok (.invokestatic 40, 3) := by decide +kernel
theorem dX0_cut_48 : decode cX0_cut 48 = .ok (.ireturn, 1) := by decide +kernel
theorem dX0_cut_49 : decode cX0_cut 49 = .ok (.iload_n 1, 1) := by decide +kernel
theorem dX0_cut_50 : decode cX0_cut 50 = .ok (.iconst 1, 1) := by decide +kernel
theorem dX0_cut_51 : decode cX0_cut 51 = .ok (.iand, 1) := by decide +kernel
theorem dX0_cut_52 : decode cX0_cut 52 = .ok (.ireturn, 1) := by decide +kernel
theorem dX0_cut_53 : decode cX0_cut 53 = .ok (.iload_n 1, 1) := by decide +kernel
theorem dX0_cut_54 : decode cX0_cut 54 = .ok (.i2b, 1) := by decide +kernel
theorem dX0_cut_55 : decode cX0_cut 55 = .ok (.ireturn, 1) := by decide +kernel
theorem dX0_nearest_0 : decode cX0_nearest 0 = .ok (.iload_n 1, 1) := by decide +kernel
theorem dX0_nearest_1 : decode cX0_nearest 1 = .ok (.iload_n 2, 1) := by decide +kernel
theorem dX0_nearest_2 : decode cX0_nearest 2 = .ok (.iload_n 0, 1) := by decide +kernel
theorem dX0_nearest_3 : decode cX0_nearest 3 = .ok (.invokestatic 121, 3) := by decide +kernel
theorem dX0_nearest_6 : decode cX0_nearest 6 = .ok (.invokestatic 126, 3) := by decide +kernel
theorem dX0_nearest_9 : decode cX0_nearest 9 = .ok (.ireturn, 1) := by decide +kernel
set_option maxRecDepth 20000 in
theorem ggX0_told_X0_nearest : GoodIn wsX0_told wsX0_nearest := goodIn_r _ [4, 5, 6, 7, 8, 9, 10, 11] (by decide +kernel) (by decide +kernel)
set_option maxRecDepth 20000 in
theorem gX0_told_X0_nearest : GoodIn wsX0_told (va_wsS RX0 40 yX0_nearest wsX0_nearest) := goodIn_app (goodIn_of _ (by decide +kernel)) ggX0_told_X0_nearest
theorem dX0_told_0 : decode cX0_told 0 = .ok (.iload_n 0, 1) := by decide +kernel
theorem dX0_told_1 : decode cX0_told 1 = .ok (.iconst 2, 1) := by decide +kernel
theorem dX0_told_2 : decode cX0_told 2 = .ok (.if_icmp .ne 16, 3) := by decide +kernel
theorem dX0_told_5 : decode cX0_told 5 = .ok (.iload_n 1, 1) := by decide +kernel
theorem dX0_told_6 : decode cX0_told 6 = .ok (.sipush (-16000), 3) := by decide +kernel
theorem dX0_told_9 : decode cX0_told 9 = .ok (.sipush 16000, 3) := by decide +kernel
theorem dX0_told_12 : decode cX0_told 12 = .ok (.invokestatic 40, 3) := by decide +kernel
theorem dX0_told_15 : decode cX0_told 15 = .ok (.goto 4, 3) := by decide +kernel
theorem dX0_told_18 : decode cX0_told 18 = .ok (.iload_n 1, 1) := by decide +kernel
theorem dX0_told_19 : decode cX0_told 19 = .ok (.ireturn, 1) := by decide +kernel
set_option maxRecDepth 20000 in
theorem ggX0_changed_X0_changedGate : GoodIn wsX0_changed wsX0_changedGate := goodIn_r _ [4] (by decide +kernel) (by decide +kernel)
set_option maxRecDepth 20000 in
theorem gX0_changed_X0_changedGate : GoodIn wsX0_changed (va_wsS RX0 129 yX0_changedGate wsX0_changedGate) := goodIn_app (goodIn_of _ (by decide +kernel)) ggX0_changed_X0_changedGate
theorem dX0_changed_0 : decode cX0_changed 0 = .ok (.iload_n 0, 1) := by decide +kernel
theorem dX0_changed_1 : decode cX0_changed 1 = .ok (.iconst 3, 1) := by decide +kernel
theorem dX0_changed_2 : decode cX0_changed 2 = .ok (.if_icmp .ne 10, 3) := by decide +kernel
theorem dX0_changed_5 : decode cX0_changed 5 = .ok (.iload_n 1, 1) := by decide +kernel
theorem dX0_changed_6 : decode cX0_changed 6 = .ok (.iload_n 2, 1) := by decide +kernel
theorem dX0_changed_7 : decode cX0_changed 7 = .ok (.iload_n 3, 1) := by decide +kernel
theorem dX0_changed_8 : decode cX0_changed 8 = .ok (.invokestatic 129, 3) := by decide +kernel
theorem dX0_changed_11 : decode cX0_changed 11 = .ok (.ireturn, 1) := by decide +kernel
theorem dX0_changed_12 : decode cX0_changed 12 = .ok (.iload_n 0, 1) := by decide +kernel
theorem dX0_changed_13 : decode cX0_changed 13 = .ok (.iconst 2, 1) := by decide +kernel
theorem dX0_changed_14 : decode cX0_changed 14 = .ok (.if_icmp .ne 8, 3) := by decide +kernel
theorem dX0_changed_17 : decode cX0_changed 17 = .ok (.bipush 8, 2) := by decide +kernel
theorem dX0_changed_19 : decode cX0_changed 19 = .ok (.goto 4, 3) := by decide +kernel
theorem dX0_changed_22 : decode cX0_changed 22 = .ok (.iconst 1, 1) := by decide +kernel
theorem dX0_changed_23 : decode cX0_changed 23 = .ok (.istore 4, 2) := by decide +kernel
theorem dX0_changed_25 : decode cX0_changed 25 = .ok (.iload_n 2, 1) := by decide +kernel
theorem dX0_changed_26 : decode cX0_changed 26 = .ok (.tableswitch 39 0 2 #[26, 30, 34], 26) := by decide +kernel
theorem dX0_changed_52 : decode cX0_changed 52 = .ok (.iload_n 1, 1) := by decide +kernel
theorem dX0_changed_53 : decode cX0_changed 53 = .ok (.iload_n 3, 1) := by decide +kernel
theorem dX0_changed_54 : decode cX0_changed 54 = .ok (.iadd, 1) := by decide +kernel
theorem dX0_changed_55 : decode cX0_changed 55 = .ok (.ireturn, 1) := by decide +kernel
theorem dX0_changed_56 : decode cX0_changed 56 = .ok (.iload_n 1, 1) := by decide +kernel
theorem dX0_changed_57 : decode cX0_changed 57 = .ok (.iload_n 3, 1) := by decide +kernel
theorem dX0_changed_58 : decode cX0_changed 58 = .ok (.isub, 1) := by decide +kernel
theorem dX0_changed_59 : decode cX0_changed 59 = .ok (.ireturn, 1) := by decide +kernel
theorem dX0_changed_60 : decode cX0_changed 60 = .ok (.iload_n 1, 1) := by decide +kernel
theorem dX0_changed_61 : decode cX0_changed 61 = .ok (.iload 4, 2) := by decide +kernel
theorem dX0_changed_63 : decode cX0_changed 63 = .ok (.iadd, 1) := by decide +kernel
theorem dX0_changed_64 : decode cX0_changed 64 = .ok (.ireturn, 1) := by decide +kernel
theorem dX0_changed_65 : decode cX0_changed 65 = .ok (.iload_n 1, 1) := by decide +kernel
theorem dX0_changed_66 : decode cX0_changed 66 = .ok (.iload 4, 2) := by decide +kernel
theorem dX0_changed_68 : decode cX0_changed 68 = .ok (.isub, 1) := by decide +kernel
theorem dX0_changed_69 : decode cX0_changed 69 = .ok (.ireturn, 1) := by decide +kernel
theorem dX0_changedGate_0 : decode cX0_changedGate 0 = .ok (.iload_n 1, 1) := by decide +kernel
theorem dX0_changedGate_1 : decode cX0_changedGate 1 = .ok (.tableswitch 39 0 2 #[27, 31, 35], 27) := by decide +kernel
theorem dX0_changedGate_28 : decode cX0_changedGate 28 = .ok (.iload_n 0, 1) := by decide +kernel
theorem dX0_changedGate_29 : decode cX0_changedGate 29 = .ok (.iload_n 2, 1) := by decide +kernel
theorem dX0_changedGate_30 : decode cX0_changedGate 30 = .ok (.ior, 1) := by decide +kernel
theorem dX0_changedGate_31 : decode cX0_changedGate 31 = .ok (.ireturn, 1) := by decide +kernel
theorem dX0_changedGate_32 : decode cX0_changedGate 32 = .ok (.iload_n 0, 1) := by decide +kernel
theorem dX0_changedGate_33 : decode cX0_changedGate 33 = .ok (.iload_n 2, 1) := by decide +kernel
theorem dX0_changedGate_34 : decode cX0_changedGate 34 = .ok (.iand, 1) := by decide +kernel
theorem dX0_changedGate_35 : decode cX0_changedGate 35 = .ok (.ireturn, 1) := by decide +kernel
theorem dX0_changedGate_36 : decode cX0_changedGate 36 = .ok (.iload_n 0, 1) := by decide +kernel
theorem dX0_changedGate_37 : decode cX0_changedGate 37 = .ok (.iconst 1, 1) := by decide +kernel
theorem dX0_changedGate_38 : decode cX0_changedGate 38 = .ok (.ixor, 1) := by decide +kernel
theorem dX0_changedGate_39 : decode cX0_changedGate 39 = .ok (.ireturn, 1) := by decide +kernel
theorem dX0_changedGate_40 : decode cX0_changedGate 40 = .ok (.iload_n 0, 1) := by decide +kernel
theorem dX0_changedGate_41 : decode cX0_changedGate 41 = .ok (.iload_n 2, 1) := by decide +kernel
theorem dX0_changedGate_42 : decode cX0_changedGate 42 = .ok (.ixor, 1) := by decide +kernel
theorem dX0_changedGate_43 : decode cX0_changedGate 43 = .ok (.ireturn, 1) := by decide +kernel
set_option maxRecDepth 20000 in
theorem ggX0_goOut_X0_endsAtLine : GoodIn wsX0_goOut wsX0_endsAtLine := goodIn_r _ [9, 10, 11, 12, 13, 14, 8, 15, 16, 17, 18, 19, 20, 21, 1, 46, 47, 48, 49, 50, 51, 52, 53, 54, 55] (by decide +kernel) (by decide +kernel)
end
section
set_option maxRecDepth 20000 in
theorem gX0_goOut_X0_endsAtLine : GoodIn wsX0_goOut (wsV RX0 61 RX0 yX0_endsAtLine wsX0_endsAtLine) := goodIn_app (goodIn_of _ (by decide +kernel)) ggX0_goOut_X0_endsAtLine
set_option maxRecDepth 20000 in
theorem ggX0_goOut_X0_leave : GoodIn wsX0_goOut wsX0_leave := goodIn_r _ [25, 4, 26, 27, 28, 8, 29, 30, 31, 32, 33, 34, 35, 36, 37, 38, 39, 40, 41, 42, 43, 44, 45, 46, 47, 48, 49, 50, 51, 52, 53, 54, 55] (by decide +kernel) (by decide +kernel)
set_option maxRecDepth 20000 in
theorem gX0_goOut_X0_leave : GoodIn wsX0_goOut (wsV RX0 132 RX0 yX0_leave wsX0_leave) := goodIn_app (goodIn_of _ (by decide +kernel)) ggX0_goOut_X0_leave
theorem dX0_goOut_0 : decode cX0_goOut 0 = .ok (.aload_n 0, 1) := by decide +kernel
theorem dX0_goOut_1 : decode cX0_goOut 1 = .ok (.iconst 2, 1) := by decide +kernel
theorem dX0_goOut_2 : decode cX0_goOut 2 = .ok (.iload_n 1, 1) := by decide +kernel
theorem dX0_goOut_3 : decode cX0_goOut 3 = .ok (.invokevirtual 61, 3) := by decide +kernel
theorem dX0_goOut_6 : decode cX0_goOut 6 = .ok (.ifCond .eq 8, 3) := by decide +kernel
theorem dX0_goOut_9 : decode cX0_goOut 9 = .ok (.aload_n 0, 1) := by decide +kernel
theorem dX0_goOut_10 : decode cX0_goOut 10 = .ok (.getfield 37, 3) := by decide +kernel
theorem dX0_goOut_13 : decode cX0_goOut 13 = .ok (.ireturn, 1) := by decide +kernel
theorem dX0_goOut_14 : decode cX0_goOut 14 = .ok (.aload_n 0, 1) := by decide +kernel
theorem dX0_goOut_15 : decode cX0_goOut 15 = .ok (.dup, 1) := by decide +kernel
theorem dX0_goOut_16 : decode cX0_goOut 16 = .ok (.getfield 28, 3) := by decide +kernel
theorem dX0_goOut_19 : decode cX0_goOut 19 = .ok (.iconst 1, 1) := by decide +kernel
theorem dX0_goOut_20 : decode cX0_goOut 20 = .ok (.iadd, 1) := by decide +kernel
theorem dX0_goOut_21 : decode cX0_goOut 21 = .ok (.putfield 28, 3) := by decide +kernel
theorem dX0_goOut_24 : decode cX0_goOut 24 = .ok (.aload_n 0, 1) := by decide +kernel
theorem dX0_goOut_25 : decode cX0_goOut 25 = .ok (.dup, 1) := by decide +kernel
theorem dX0_goOut_26 : decode cX0_goOut 26 = .ok (.getfield 31, 3) := by decide +kernel
theorem dX0_goOut_29 : decode cX0_goOut 29 = .ok (.aload_n 0, 1) := by decide +kernel
theorem dX0_goOut_30 : decode cX0_goOut 30 = .ok (.getfield 15, 3) := by decide +kernel
theorem dX0_goOut_33 : decode cX0_goOut 33 = .ok (.iconst 2, 1) := by decide +kernel
theorem dX0_goOut_34 : decode cX0_goOut 34 = .ok (.aaload, 1) := by decide +kernel
theorem dX0_goOut_35 : decode cX0_goOut 35 = .ok (.iload_n 1, 1) := by decide +kernel
theorem dX0_goOut_36 : decode cX0_goOut 36 = .ok (.iaload, 1) := by decide +kernel
theorem dX0_goOut_37 : decode cX0_goOut 37 = .ok (.iadd, 1) := by decide +kernel
theorem dX0_goOut_38 : decode cX0_goOut 38 = .ok (.putfield 31, 3) := by decide +kernel
theorem dX0_goOut_41 : decode cX0_goOut 41 = .ok (.aload_n 0, 1) := by decide +kernel
theorem dX0_goOut_42 : decode cX0_goOut 42 = .ok (.iload_n 1, 1) := by decide +kernel
theorem dX0_goOut_43 : decode cX0_goOut 43 = .ok (.invokevirtual 132, 3) := by decide +kernel
theorem dX0_goOut_46 : decode cX0_goOut 46 = .ok (.ireturn, 1) := by decide +kernel
set_option maxRecDepth 20000 in
theorem ggX0_goOn_X0_endsAtLine : GoodIn wsX0_goOn wsX0_endsAtLine := goodIn_r _ [7, 8, 9, 10, 11, 12, 6, 13, 14, 15, 16, 17, 18, 19, 1, 48, 49, 50, 51, 52, 53, 54, 55, 56, 57] (by decide +kernel) (by decide +kernel)
set_option maxRecDepth 20000 in
theorem gX0_goOn_X0_endsAtLine : GoodIn wsX0_goOn (wsV RX0 61 RX0 yX0_endsAtLine wsX0_endsAtLine) := goodIn_app (goodIn_of _ (by decide +kernel)) ggX0_goOn_X0_endsAtLine
set_option maxRecDepth 20000 in
theorem ggX0_goOn_X0_endsAtArrival : GoodIn wsX0_goOn wsX0_endsAtArrival := goodIn_r _ [23, 2, 3, 4, 5, 6, 7, 8, 9, 10, 11, 12, 13, 14, 15, 16, 17, 18, 19, 1, 24, 25, 26, 27, 28, 29, 30, 31, 32, 33, 34, 35, 36, 37, 38, 39, 40, 41, 42, 43, 48, 49, 50, 51, 52, 53, 54, 55, 56, 57] (by decide +kernel) (by decide +kernel)
set_option maxRecDepth 20000 in
theorem gX0_goOn_X0_endsAtArrival : GoodIn wsX0_goOn (wsV RX0 89 RX0 yX0_endsAtArrival wsX0_endsAtArrival) := goodIn_app (goodIn_of _ (by decide +kernel)) ggX0_goOn_X0_endsAtArrival
set_option maxRecDepth 20000 in
theorem ggX0_goOn_X0_leave : GoodIn wsX0_goOn wsX0_leave := goodIn_r _ [47, 2, 24, 25, 26, 6, 27, 28, 29, 30, 31, 32, 33, 34, 35, 36, 37, 38, 39, 40, 41, 42, 43, 48, 49, 50, 51, 52, 53, 54, 55, 56, 57] (by decide +kernel) (by decide +kernel)
set_option maxRecDepth 20000 in
theorem gX0_goOn_X0_leave : GoodIn wsX0_goOn (wsV RX0 132 RX0 yX0_leave wsX0_leave) := goodIn_app (goodIn_of _ (by decide +kernel)) ggX0_goOn_X0_leave
theorem dX0_goOn_0 : decode cX0_goOn 0 = .ok (.iload_n 1, 1) := by decide +kernel
theorem dX0_goOn_1 : decode cX0_goOn 1 = .ok (.iconst 1, 1) := by decide +kernel
theorem dX0_goOn_2 : decode cX0_goOn 2 = .ok (.iadd, 1) := by decide +kernel
theorem dX0_goOn_3 : decode cX0_goOn 3 = .ok (.istore_n 2, 1) := by decide +kernel
theorem dX0_goOn_4 : decode cX0_goOn 4 = .ok (.aload_n 0, 1) := by decide +kernel
theorem dX0_goOn_5 : decode cX0_goOn 5 = .ok (.iconst 0, 1) := by decide +kernel
theorem dX0_goOn_6 : decode cX0_goOn 6 = .ok (.iload_n 2, 1) := by decide +kernel
theorem dX0_goOn_7 : decode cX0_goOn 7 = .ok (.invokevirtual 61, 3) := by decide +kernel
theorem dX0_goOn_10 : decode cX0_goOn 10 = .ok (.ifCond .eq 8, 3) := by decide +kernel
theorem dX0_goOn_13 : decode cX0_goOn 13 = .ok (.aload_n 0, 1) := by decide +kernel
theorem dX0_goOn_14 : decode cX0_goOn 14 = .ok (.getfield 37, 3) := by decide +kernel
theorem dX0_goOn_17 : decode cX0_goOn 17 = .ok (.ireturn, 1) := by decide +kernel
theorem dX0_goOn_18 : decode cX0_goOn 18 = .ok (.aload_n 0, 1) := by decide +kernel
theorem dX0_goOn_19 : decode cX0_goOn 19 = .ok (.getfield 15, 3) := by decide +kernel
theorem dX0_goOn_22 : decode cX0_goOn 22 = .ok (.iconst 0, 1) := by decide +kernel
theorem dX0_goOn_23 : decode cX0_goOn 23 = .ok (.aaload, 1) := by decide +kernel
theorem dX0_goOn_24 : decode cX0_goOn 24 = .ok (.iload_n 2, 1) := by decide +kernel
theorem dX0_goOn_25 : decode cX0_goOn 25 = .ok (.iaload, 1) := by decide +kernel
theorem dX0_goOn_26 : decode cX0_goOn 26 = .ok (.ifCond .eq 6, 3) := by decide +kernel
theorem dX0_goOn_29 : decode cX0_goOn 29 = .ok (.bipush (-4), 2) := by decide +kernel
theorem dX0_goOn_31 : decode cX0_goOn 31 = .ok (.ireturn, 1) := by decide +kernel
theorem dX0_goOn_32 : decode cX0_goOn 32 = .ok (.aload_n 0, 1) := by decide +kernel
theorem dX0_goOn_33 : decode cX0_goOn 33 = .ok (.iconst 2, 1) := by decide +kernel
theorem dX0_goOn_34 : decode cX0_goOn 34 = .ok (.iload_n 1, 1) := by decide +kernel
theorem dX0_goOn_35 : decode cX0_goOn 35 = .ok (.invokevirtual 61, 3) := by decide +kernel
theorem dX0_goOn_38 : decode cX0_goOn 38 = .ok (.ifCond .eq 8, 3) := by decide +kernel
theorem dX0_goOn_41 : decode cX0_goOn 41 = .ok (.aload_n 0, 1) := by decide +kernel
theorem dX0_goOn_42 : decode cX0_goOn 42 = .ok (.getfield 37, 3) := by decide +kernel
theorem dX0_goOn_45 : decode cX0_goOn 45 = .ok (.ireturn, 1) := by decide +kernel
theorem dX0_goOn_46 : decode cX0_goOn 46 = .ok (.aload_n 0, 1) := by decide +kernel
theorem dX0_goOn_47 : decode cX0_goOn 47 = .ok (.iload_n 2, 1) := by decide +kernel
theorem dX0_goOn_48 : decode cX0_goOn 48 = .ok (.aload_n 0, 1) := by decide +kernel
theorem dX0_goOn_49 : decode cX0_goOn 49 = .ok (.getfield 15, 3) := by decide +kernel
theorem dX0_goOn_52 : decode cX0_goOn 52 = .ok (.iconst 0, 1) := by decide +kernel
theorem dX0_goOn_53 : decode cX0_goOn 53 = .ok (.aaload, 1) := by decide +kernel
theorem dX0_goOn_54 : decode cX0_goOn 54 = .ok (.iload_n 1, 1) := by decide +kernel
theorem dX0_goOn_55 : decode cX0_goOn 55 = .ok (.iaload, 1) := by decide +kernel
theorem dX0_goOn_56 : decode cX0_goOn 56 = .ok (.aload_n 0, 1) := by decide +kernel
theorem dX0_goOn_57 : decode cX0_goOn 57 = .ok (.getfield 15, 3) := by decide +kernel
theorem dX0_goOn_60 : decode cX0_goOn 60 = .ok (.iconst 2, 1) := by decide +kernel
theorem dX0_goOn_61 : decode cX0_goOn 61 = .ok (.aaload, 1) := by decide +kernel
theorem dX0_goOn_62 : decode cX0_goOn 62 = .ok (.iload_n 1, 1) := by decide +kernel
theorem dX0_goOn_63 : decode cX0_goOn 63 = .ok (.iaload, 1) := by decide +kernel
theorem dX0_goOn_64 : decode cX0_goOn 64 = .ok (.invokevirtual 89, 3) := by decide +kernel
theorem dX0_goOn_67 : decode cX0_goOn 67 = .ok (.ifCond .eq 8, 3) := by decide +kernel
theorem dX0_goOn_70 : decode cX0_goOn 70 = .ok (.aload_n 0, 1) := by decide +kernel
theorem dX0_goOn_71 : decode cX0_goOn 71 = .ok (.getfield 37, 3) := by decide +kernel
theorem dX0_goOn_74 : decode cX0_goOn 74 = .ok (.ireturn, 1) := by decide +kernel
theorem dX0_goOn_75 : decode cX0_goOn 75 = .ok (.aload_n 0, 1) := by decide +kernel
theorem dX0_goOn_76 : decode cX0_goOn 76 = .ok (.iload_n 1, 1) := by decide +kernel
theorem dX0_goOn_77 : decode cX0_goOn 77 = .ok (.invokevirtual 132, 3) := by decide +kernel
theorem dX0_goOn_80 : decode cX0_goOn 80 = .ok (.ireturn, 1) := by decide +kernel
set_option maxRecDepth 20000 in
theorem ggX0_leave_X0_put : GoodIn wsX0_leave wsX0_put := goodIn_r _ [6, 1, 7, 8, 5, 9, 10, 11, 12, 13, 14, 15, 16, 17, 18, 19, 20, 21, 22, 23, 24, 25, 26, 27, 28, 29, 30, 31, 32] (by decide +kernel) (by decide +kernel)
set_option maxRecDepth 20000 in
theorem gX0_leave_X0_put : GoodIn wsX0_leave (wsV RX0 68 RX0 yX0_put wsX0_put) := goodIn_app (goodIn_of _ (by decide +kernel)) ggX0_leave_X0_put
theorem dX0_leave_0 : decode cX0_leave 0 = .ok (.aload_n 0, 1) := by decide +kernel
theorem dX0_leave_1 : decode cX0_leave 1 = .ok (.getfield 15, 3) := by decide +kernel
theorem dX0_leave_4 : decode cX0_leave 4 = .ok (.iconst 2, 1) := by decide +kernel
theorem dX0_leave_5 : decode cX0_leave 5 = .ok (.aaload, 1) := by decide +kernel
theorem dX0_leave_6 : decode cX0_leave 6 = .ok (.iload_n 1, 1) := by decide +kernel
theorem dX0_leave_7 : decode cX0_leave 7 = .ok (.iaload, 1) := by decide +kernel
theorem dX0_leave_8 : decode cX0_leave 8 = .ok (.istore_n 2, 1) := by decide +kernel
theorem dX0_leave_9 : decode cX0_leave 9 = .ok (.aload_n 0, 1) := by decide +kernel
theorem dX0_leave_10 : decode cX0_leave 10 = .ok (.iconst 2, 1) := by decide +kernel
theorem dX0_leave_11 : decode cX0_leave 11 = .ok (.iload_n 1, 1) := by decide +kernel
theorem dX0_leave_12 : decode cX0_leave 12 = .ok (.iconst 0, 1) := by decide +kernel
theorem dX0_leave_13 : decode cX0_leave 13 = .ok (.invokevirtual 68, 3) := by decide +kernel
theorem dX0_leave_16 : decode cX0_leave 16 = .ok (.aload_n 0, 1) := by decide +kernel
theorem dX0_leave_17 : decode cX0_leave 17 = .ok (.iconst 0, 1) := by decide +kernel
theorem dX0_leave_18 : decode cX0_leave 18 = .ok (.iload_n 1, 1) := by decide +kernel
theorem dX0_leave_19 : decode cX0_leave 19 = .ok (.iconst 0, 1) := by decide +kernel
theorem dX0_leave_20 : decode cX0_leave 20 = .ok (.invokevirtual 68, 3) := by decide +kernel
theorem dX0_leave_23 : decode cX0_leave 23 = .ok (.iload_n 2, 1) := by decide +kernel
theorem dX0_leave_24 : decode cX0_leave 24 = .ok (.ireturn, 1) := by decide +kernel
theorem dX0_booksKept_0 : decode cX0_booksKept 0 = .ok (.iconst 0, 1) := by decide +kernel
theorem dX0_booksKept_1 : decode cX0_booksKept 1 = .ok (.istore_n 1, 1) := by decide +kernel
theorem dX0_booksKept_2 : decode cX0_booksKept 2 = .ok (.iconst 0, 1) := by decide +kernel
theorem dX0_booksKept_3 : decode cX0_booksKept 3 = .ok (.istore_n 2, 1) := by decide +kernel
theorem dX0_booksKept_4 : decode cX0_booksKept 4 = .ok (.iload_n 2, 1) := by decide +kernel
theorem dX0_booksKept_5 : decode cX0_booksKept 5 = .ok (.iconst 5, 1) := by decide +kernel
theorem dX0_booksKept_6 : decode cX0_booksKept 6 = .ok (.if_icmp .ge 22, 3) := by decide +kernel
theorem dX0_booksKept_9 : decode cX0_booksKept 9 = .ok (.aload_n 0, 1) := by decide +kernel
theorem dX0_booksKept_10 : decode cX0_booksKept 10 = .ok (.getfield 9, 3) := by decide +kernel
theorem dX0_booksKept_13 : decode cX0_booksKept 13 = .ok (.iload_n 2, 1) := by decide +kernel
theorem dX0_booksKept_14 : decode cX0_booksKept 14 = .ok (.iaload, 1) := by decide +kernel
theorem dX0_booksKept_15 : decode cX0_booksKept 15 = .ok (.iconst (-1), 1) := by decide +kernel
theorem dX0_booksKept_16 : decode cX0_booksKept 16 = .ok (.if_icmp .eq 6, 3) := by decide +kernel
theorem dX0_booksKept_19 : decode cX0_booksKept 19 = .ok (.iinc 1 1, 3) := by decide +kernel
theorem dX0_booksKept_22 : decode cX0_booksKept 22 = .ok (.iinc 2 1, 3) := by decide +kernel
theorem dX0_booksKept_25 : decode cX0_booksKept 25 = .ok (.goto (-21), 3) := by decide +kernel
theorem dX0_booksKept_28 : decode cX0_booksKept 28 = .ok (.iload_n 1, 1) := by decide +kernel
theorem dX0_booksKept_29 : decode cX0_booksKept 29 = .ok (.ireturn, 1) := by decide +kernel
theorem dX1_init_0 : decode cX1_init 0 = .ok (.aload_n 0, 1) := by decide +kernel
theorem dX1_init_1 : decode cX1_init 1 = .ok (.invokespecial 1, 3) := by decide +kernel
theorem dX1_init_4 : decode cX1_init 4 = .ok (.aload_n 0, 1) := by decide +kernel
theorem dX1_init_5 : decode cX1_init 5 = .ok (.iconst 5, 1) := by decide +kernel
theorem dX1_init_6 : decode cX1_init 6 = .ok (.newarray .int, 2) := by decide +kernel
theorem dX1_init_8 : decode cX1_init 8 = .ok (.putfield 7, 3) := by decide +kernel
theorem dX1_init_11 : decode cX1_init 11 = .ok (.aload_n 0, 1) := by decide +kernel
theorem dX1_init_12 : decode cX1_init 12 = .ok (.bipush 120, 2) := by decide +kernel
theorem dX1_init_14 : decode cX1_init 14 = .ok (.newarray .int, 2) := by decide +kernel
theorem dX1_init_16 : decode cX1_init 16 = .ok (.putfield 13, 3) := by decide +kernel
theorem dX1_init_19 : decode cX1_init 19 = .ok (.aload_n 0, 1) := by decide +kernel
theorem dX1_init_20 : decode cX1_init 20 = .ok (.sipush 576, 3) := by decide +kernel
theorem dX1_init_23 : decode cX1_init 23 = .ok (.newarray .int, 2) := by decide +kernel
theorem dX1_init_25 : decode cX1_init 25 = .ok (.putfield 16, 3) := by decide +kernel
theorem dX1_init_28 : decode cX1_init 28 = .ok (.aload_n 0, 1) := by decide +kernel
theorem dX1_init_29 : decode cX1_init 29 = .ok (.iload_n 1, 1) := by decide +kernel
theorem dX1_init_30 : decode cX1_init 30 = .ok (.iconst 1, 1) := by decide +kernel
theorem dX1_init_31 : decode cX1_init 31 = .ok (.if_icmp .ge 7, 3) := by decide +kernel
theorem dX1_init_34 : decode cX1_init 34 = .ok (.iconst 1, 1) := by decide +kernel
theorem dX1_init_35 : decode cX1_init 35 = .ok (.goto 15, 3) := by decide +kernel
theorem dX1_init_38 : decode cX1_init 38 = .ok (.iload_n 1, 1) := by decide +kernel
theorem dX1_init_39 : decode cX1_init 39 = .ok (.bipush 24, 2) := by decide +kernel
theorem dX1_init_41 : decode cX1_init 41 = .ok (.if_icmp .le 8, 3) := by decide +kernel
theorem dX1_init_44 : decode cX1_init 44 = .ok (.bipush 24, 2) := by decide +kernel
theorem dX1_init_46 : decode cX1_init 46 = .ok (.goto 4, 3) := by decide +kernel
theorem dX1_init_49 : decode cX1_init 49 = .ok (.iload_n 1, 1) := by decide +kernel
theorem dX1_init_50 : decode cX1_init 50 = .ok (.putfield 19, 3) := by decide +kernel
theorem dX1_init_53 : decode cX1_init 53 = .ok (.iconst 0, 1) := by decide +kernel
theorem dX1_init_54 : decode cX1_init 54 = .ok (.istore_n 2, 1) := by decide +kernel
theorem dX1_init_55 : decode cX1_init 55 = .ok (.iload_n 2, 1) := by decide +kernel
theorem dX1_init_56 : decode cX1_init 56 = .ok (.iconst 5, 1) := by decide +kernel
theorem dX1_init_57 : decode cX1_init 57 = .ok (.if_icmp .ge 16, 3) := by decide +kernel
theorem dX1_init_60 : decode cX1_init 60 = .ok (.aload_n 0, 1) := by decide +kernel
theorem dX1_init_61 : decode cX1_init 61 = .ok (.getfield 7, 3) := by decide +kernel
theorem dX1_init_64 : decode cX1_init 64 = .ok (.iload_n 2, 1) := by decide +kernel
theorem dX1_init_65 : decode cX1_init 65 = .ok (.iconst (-1), 1) := by decide +kernel
theorem dX1_init_66 : decode cX1_init 66 = .ok (.iastore, 1) := by decide +kernel
theorem dX1_init_67 : decode cX1_init 67 = .ok (.iinc 2 1, 3) := by decide +kernel
theorem dX1_init_70 : decode cX1_init 70 = .ok (.goto (-15), 3) := by decide +kernel
theorem dX1_init_73 : decode cX1_init 73 = .ok (.return_, 1) := by decide +kernel
theorem dX1_isBook_0 : decode cX1_isBook 0 = .ok (.iload_n 0, 1) := by decide +kernel
theorem dX1_isBook_1 : decode cX1_isBook 1 = .ok (.ifCond .lt 12, 3) := by decide +kernel
theorem dX1_isBook_4 : decode cX1_isBook 4 = .ok (.iload_n 0, 1) := by decide +kernel
theorem dX1_isBook_5 : decode cX1_isBook 5 = .ok (.iconst 5, 1) := by decide +kernel
theorem dX1_isBook_6 : decode cX1_isBook 6 = .ok (.if_icmp .ge 7, 3) := by decide +kernel
theorem dX1_isBook_9 : decode cX1_isBook 9 = .ok (.iconst 1, 1) := by decide +kernel
theorem dX1_isBook_10 : decode cX1_isBook 10 = .ok (.goto 4, 3) := by decide +kernel
theorem dX1_isBook_13 : decode cX1_isBook 13 = .ok (.iconst 0, 1) := by decide +kernel
theorem dX1_isBook_14 : decode cX1_isBook 14 = .ok (.ireturn, 1) := by decide +kernel
theorem dX1_isChamber_0 : decode cX1_isChamber 0 = .ok (.iload_n 1, 1) := by decide +kernel
theorem dX1_isChamber_1 : decode cX1_isChamber 1 = .ok (.ifCond .lt 15, 3) := by decide +kernel
theorem dX1_isChamber_4 : decode cX1_isChamber 4 = .ok (.iload_n 1, 1) := by decide +kernel
theorem dX1_isChamber_5 : decode cX1_isChamber 5 = .ok (.aload_n 0, 1) := by decide +kernel
theorem dX1_isChamber_6 : decode cX1_isChamber 6 = .ok (.getfield 19, 3) := by decide +kernel
theorem dX1_isChamber_9 : decode cX1_isChamber 9 = .ok (.if_icmp .ge 7, 3) := by decide +kernel
theorem dX1_isChamber_12 : decode cX1_isChamber 12 = .ok (.iconst 1, 1) := by decide +kernel
theorem dX1_isChamber_13 : decode cX1_isChamber 13 = .ok (.goto 4, 3) := by decide +kernel
theorem dX1_isChamber_16 : decode cX1_isChamber 16 = .ok (.iconst 0, 1) := by decide +kernel
theorem dX1_isChamber_17 : decode cX1_isChamber 17 = .ok (.ireturn, 1) := by decide +kernel
theorem dX1_has_0 : decode cX1_has 0 = .ok (.aload_n 0, 1) := by decide +kernel
theorem dX1_has_1 : decode cX1_has 1 = .ok (.getfield 23, 3) := by decide +kernel
theorem dX1_has_4 : decode cX1_has 4 = .ok (.ifCond .eq 5, 3) := by decide +kernel
theorem dX1_has_7 : decode cX1_has 7 = .ok (.iconst 0, 1) := by decide +kernel
theorem dX1_has_8 : decode cX1_has 8 = .ok (.ireturn, 1) := by decide +kernel
theorem dX1_has_9 : decode cX1_has 9 = .ok (.aload_n 0, 1) := by decide +kernel
theorem dX1_has_10 : decode cX1_has 10 = .ok (.getfield 7, 3) := by decide +kernel
theorem dX1_has_13 : decode cX1_has 13 = .ok (.iload_n 1, 1) := by decide +kernel
theorem dX1_has_14 : decode cX1_has 14 = .ok (.iaload, 1) := by decide +kernel
theorem dX1_has_15 : decode cX1_has 15 = .ok (.ifCond .ge 14, 3) := by decide +kernel
theorem dX1_has_18 : decode cX1_has 18 = .ok (.aload_n 0, 1) := by decide +kernel
theorem dX1_has_19 : decode cX1_has 19 = .ok (.ldc 26, 2) := by decide +kernel
theorem dX1_has_21 : decode cX1_has 21 = .ok (.iload_n 1, 1) := by decide +kernel
theorem dX1_has_22 : decode cX1_has 22 = .ok (.isub, 1) := by decide +kernel
theorem dX1_has_23 : decode cX1_has 23 = .ok (.putfield 23, 3) := by decide +kernel
theorem dX1_has_26 : decode cX1_has 26 = .ok (.goto 25, 3) := by decide +kernel
theorem dX1_has_29 : decode cX1_has 29 = .ok (.iload_n 2, 1) := by decide +kernel
theorem dX1_has_30 : decode cX1_has 30 = .ok (.ifCond .lt 13, 3) := by decide +kernel
theorem dX1_has_33 : decode cX1_has 33 = .ok (.iload_n 2, 1) := by decide +kernel
theorem dX1_has_34 : decode cX1_has 34 = .ok (.aload_n 0, 1) := by decide +kernel
theorem dX1_has_35 : decode cX1_has 35 = .ok (.getfield 7, 3) := by decide +kernel
theorem dX1_has_38 : decode cX1_has 38 = .ok (.iload_n 1, 1) := by decide +kernel
theorem dX1_has_39 : decode cX1_has 39 = .ok (.iaload, 1) := by decide +kernel
theorem dX1_has_40 : decode cX1_has 40 = .ok (.if_icmp .lt 11, 3) := by decide +kernel
theorem dX1_has_43 : decode cX1_has 43 = .ok (.aload_n 0, 1) := by decide +kernel
theorem dX1_has_44 : decode cX1_has 44 = .ok (.ldc 27, 2) := by decide +kernel
theorem dX1_has_46 : decode cX1_has 46 = .ok (.iload_n 1, 1) := by decide +kernel
theorem dX1_has_47 : decode cX1_has 47 = .ok (.isub, 1) := by decide +kernel
theorem dX1_has_48 : decode cX1_has 48 = .ok (.putfield 23, 3) := by decide +kernel
theorem dX1_has_51 : decode cX1_has 51 = .ok (.aload_n 0, 1) := by decide +kernel
theorem dX1_has_52 : decode cX1_has 52 = .ok (.getfield 23, 3) := by decide +kernel
theorem dX1_has_55 : decode cX1_has 55 = .ok (.ifCond .ne 7, 3) := by decide +kernel
theorem dX1_has_58 : decode cX1_has 58 = .ok (.iconst 1, 1) := by decide +kernel
theorem dX1_has_59 : decode cX1_has 59 = .ok (.goto 4, 3) := by decide +kernel
theorem dX1_has_62 : decode cX1_has 62 = .ok (.iconst 0, 1) := by decide +kernel
theorem dX1_has_63 : decode cX1_has 63 = .ok (.ireturn, 1) := by decide +kernel
set_option maxRecDepth 20000 in
theorem ggX1_cell_X1_has : GoodIn wsX1_cell wsX1_has := goodIn_r _ [6, 7, 8, 9, 10, 11, 12, 13, 14, 15, 16, 17, 18, 19, 20, 21, 22] (by decide +kernel) (by decide +kernel)
set_option maxRecDepth 20000 in
theorem gX1_cell_X1_has : GoodIn wsX1_cell (wsV RX1 28 RX1 yX1_has wsX1_has) := goodIn_app (goodIn_of _ (by decide +kernel)) ggX1_cell_X1_has
theorem dX1_cell_0 : decode cX1_cell 0 = .ok (.aload_n 0, 1) := by decide +kernel
theorem dX1_cell_1 : decode cX1_cell 1 = .ok (.iload_n 1, 1) := by decide +kernel
theorem dX1_cell_2 : decode cX1_cell 2 = .ok (.iload_n 2, 1) := by decide +kernel
theorem dX1_cell_3 : decode cX1_cell 3 = .ok (.invokevirtual 28, 3) := by decide +kernel
theorem dX1_cell_6 : decode cX1_cell 6 = .ok (.ifCond .eq 17, 3) := by decide +kernel
theorem dX1_cell_9 : decode cX1_cell 9 = .ok (.aload_n 0, 1) := by decide +kernel
theorem dX1_cell_10 : decode cX1_cell 10 = .ok (.getfield 13, 3) := by decide +kernel
theorem dX1_cell_13 : decode cX1_cell 13 = .ok (.bipush 24, 2) := by decide +kernel
theorem dX1_cell_15 : decode cX1_cell 15 = .ok (.iload_n 1, 1) := by decide +kernel
theorem dX1_cell_16 : decode cX1_cell 16 = .ok (.imul, 1) := by decide +kernel
theorem dX1_cell_17 : decode cX1_cell 17 = .ok (.iload_n 2, 1) := by decide +kernel
theorem dX1_cell_18 : decode cX1_cell 18 = .ok (.iadd, 1) := by decide +kernel
theorem dX1_cell_19 : decode cX1_cell 19 = .ok (.iaload, 1) := by decide +kernel
theorem dX1_cell_20 : decode cX1_cell 20 = .ok (.goto 4, 3) := by decide +kernel
theorem dX1_cell_23 : decode cX1_cell 23 = .ok (.iconst 0, 1) := by decide +kernel
theorem dX1_cell_24 : decode cX1_cell 24 = .ok (.ireturn, 1) := by decide +kernel
theorem dX1_cut_0 : decode cX1_cut 0 = .ok (.iload_n 0, 1) := by decide +kernel
theorem dX1_cut_1 : decode cX1_cut 1 = .ok (.ifCond .ne 8, 3) := by decide +kernel
theorem dX1_cut_4 : decode cX1_cut 4 = .ok (.iload_n 1, 1) := by decide +kernel
theorem dX1_cut_5 : decode cX1_cut 5 = .ok (.ldc 32, 2) := by decide +kernel
theorem dX1_cut_7 : decode cX1_cut 7 = .ok (.iand, 1) := by decide +kernel
theorem dX1_cut_8 : decode cX1_cut 8 = .ok (.ireturn, 1) := by decide +kernel
theorem dX1_cut_9 : decode cX1_cut 9 = .ok (.iload_n 0, 1) := by decide +kernel
theorem dX1_cut_10 : decode cX1_cut 10 = .ok (.iconst 3, 1) := by decide +kernel
theorem dX1_cut_11 : decode cX1_cut 11 = .ok (.if_icmp .ne 7, 3) := by decide +kernel
theorem dX1_cut_14 : decode cX1_cut 14 = .ok (.iload_n 1, 1) := by decide +kernel
theorem dX1_cut_15 : decode cX1_cut 15 = .ok (.iconst 1, 1) := by decide +kernel
theorem dX1_cut_16 : decode cX1_cut 16 = .ok (.iand, 1) := by decide +kernel
theorem dX1_cut_17 : decode cX1_cut 17 = .ok (.ireturn, 1) := by decide +kernel
theorem dX1_cut_18 : decode cX1_cut 18 = .ok (.iload_n 0, 1) := by decide +kernel
theorem dX1_cut_19 : decode cX1_cut 19 = .ok (.iconst 1, 1) := by decide +kernel
theorem dX1_cut_20 : decode cX1_cut 20 = .ok (.if_icmp .ne 24, 3) := by decide +kernel
theorem dX1_cut_23 : decode cX1_cut 23 = .ok (.iload_n 1, 1) := by decide +kernel
theorem dX1_cut_24 : decode cX1_cut 24 = .ok (.ldc 32, 2) := by decide +kernel
theorem dX1_cut_26 : decode cX1_cut 26 = .ok (.iand, 1) := by decide +kernel
theorem dX1_cut_27 : decode cX1_cut 27 = .ok (.istore_n 2, 1) := by decide +kernel
theorem dX1_cut_28 : decode cX1_cut 28 = .ok (.iload_n 2, 1) := by decide +kernel
theorem dX1_cut_29 : decode cX1_cut 29 = .ok (.sipush 32767, 3) := by decide +kernel
theorem dX1_cut_32 : decode cX1_cut 32 = .ok (.if_icmp .le 10, 3) := by decide +kernel
theorem dX1_cut_35 : decode cX1_cut 35 = .ok (.iload_n 2, 1) := by decide +kernel
theorem dX1_cut_36 : decode cX1_cut 36 = .ok (.ldc 33, 2) := by decide +kernel
theorem dX1_cut_38 : decode cX1_cut 38 = .ok (.isub, 1) := by decide +kernel
theorem dX1_cut_39 : decode cX1_cut 39 = .ok (.goto 4, 3) := by decide +kernel
theorem dX1_cut_42 : decode cX1_cut 42 = .ok (.iload_n 2, 1) := by decide +kernel
theorem dX1_cut_43 : decode cX1_cut 43 = .ok (.ireturn, 1) := by decide +kernel
theorem dX1_cut_44 : decode cX1_cut 44 = .ok (.iload_n 0, 1) := by decide +kernel
theorem dX1_cut_45 : decode cX1_cut 45 = .ok (.iconst 4, 1) := by decide +kernel
theorem dX1_cut_46 : decode cX1_cut 46 = .ok (.if_icmp .ne 25, 3) := by decide +kernel
theorem dX1_cut_49 : decode cX1_cut 49 = .ok (.iload_n 1, 1) := by decide +kernel
theorem dX1_cut_50 : decode cX1_cut 50 = .ok (.sipush 255, 3) := by decide +kernel
theorem dX1_cut_53 : decode cX1_cut 53 = .ok (.iand, 1) := by decide +kernel
theorem dX1_cut_54 : decode cX1_cut 54 = .ok (.istore_n 2, 1) := by decide +kernel
theorem dX1_cut_55 : decode cX1_cut 55 = .ok (.iload_n 2, 1) := by decide +kernel
theorem dX1_cut_56 : decode cX1_cut 56 = .ok (.bipush 127, 2) := by decide +kernel
theorem dX1_cut_58 : decode cX1_cut 58 = .ok (.if_icmp .le 11, 3) := by decide +kernel
theorem dX1_cut_61 : decode cX1_cut 61 = .ok (.iload_n 2, 1) := by decide +kernel
theorem dX1_cut_62 : decode cX1_cut 62 = .ok (.sipush 256, 3) := by decide +kernel
theorem dX1_cut_65 : decode cX1_cut 65 = .ok (.isub, 1) := by decide +kernel
theorem dX1_cut_66 : decode cX1_cut 66 = .ok (.goto 4, 3) := by decide +kernel
theorem dX1_cut_69 : decode cX1_cut 69 = .ok (.iload_n 2, 1) := by decide +kernel
theorem dX1_cut_70 : decode cX1_cut 70 = .ok (.ireturn, 1) := by decide +kernel
theorem dX1_cut_71 : decode cX1_cut 71 = .ok (.iload_n 1, 1) := by decide +kernel
theorem dX1_cut_72 : decode cX1_cut 72 = .ok (.ldc 34, 2) := by decide +kernel
theorem dX1_cut_74 : decode cX1_cut 74 = .ok (.if_icmp .le 8, 3) := by decide +kernel
theorem dX1_cut_77 : decode cX1_cut 77 = .ok (.ldc 34, 2) := by decide +kernel
theorem dX1_cut_79 : decode cX1_cut 79 = .ok (.goto 15, 3) := by decide +kernel
theorem dX1_cut_82 : decode cX1_cut 82 = .ok (.iload_n 1, 1) := by decide +kernel
theorem dX1_cut_83 : decode cX1_cut 83 = .ok (.ldc 35, 2) := by decide +kernel
theorem dX1_cut_85 : decode cX1_cut 85 = .ok (.if_icmp .ge 8, 3) := by decide +kernel
theorem dX1_cut_88 : decode cX1_cut 88 = .ok (.ldc 35, 2) := by decide +kernel
theorem dX1_cut_90 : decode cX1_cut 90 = .ok (.goto 4, 3) := by decide +kernel
theorem dX1_cut_93 : decode cX1_cut 93 = .ok (.iload_n 1, 1) := by decide +kernel
theorem dX1_cut_94 : decode cX1_cut 94 = .ok (.ireturn, 1) := by decide +kernel
set_option maxRecDepth 20000 in
theorem ggX1_put_X1_has : GoodIn wsX1_put wsX1_has := goodIn_r _ [6, 7, 8, 9, 10, 18, 19, 20, 21, 22, 23, 24, 25, 26, 27, 28, 29] (by decide +kernel) (by decide +kernel)
set_option maxRecDepth 20000 in
theorem gX1_put_X1_has : GoodIn wsX1_put (wsV RX1 28 RX1 yX1_has wsX1_has) := goodIn_app (goodIn_of _ (by decide +kernel)) ggX1_put_X1_has
set_option maxRecDepth 20000 in
theorem ggX1_put_X1_cut : GoodIn wsX1_put wsX1_cut := goodIn_r _ [13, 14, 15, 16, 17] (by decide +kernel) (by decide +kernel)
set_option maxRecDepth 20000 in
theorem gX1_put_X1_cut : GoodIn wsX1_put (va_wsS RX1 36 yX1_cut wsX1_cut) := goodIn_app (goodIn_of _ (by decide +kernel)) ggX1_put_X1_cut
theorem dX1_put_0 : decode cX1_put 0 = .ok (.aload_n 0, 1) := by decide +kernel
theorem dX1_put_1 : decode cX1_put 1 = .ok (.iload_n 1, 1) := by decide +kernel
theorem dX1_put_2 : decode cX1_put 2 = .ok (.iload_n 2, 1) := by decide +kernel
theorem dX1_put_3 : decode cX1_put 3 = .ok (.invokevirtual 28, 3) := by decide +kernel
theorem dX1_put_6 : decode cX1_put 6 = .ok (.ifCond .eq 19, 3) := by decide +kernel
theorem dX1_put_9 : decode cX1_put 9 = .ok (.aload_n 0, 1) := by decide +kernel
theorem dX1_put_10 : decode cX1_put 10 = .ok (.getfield 13, 3) := by decide +kernel
theorem dX1_put_13 : decode cX1_put 13 = .ok (.bipush 24, 2) := by decide +kernel
theorem dX1_put_15 : decode cX1_put 15 = .ok (.iload_n 1, 1) := by decide +kernel
theorem dX1_put_16 : decode cX1_put 16 = .ok (.imul, 1) := by decide +kernel
theorem dX1_put_17 : decode cX1_put 17 = .ok (.iload_n 2, 1) := by decide +kernel
theorem dX1_put_18 : decode cX1_put 18 = .ok (.iadd, 1) := by decide +kernel
theorem dX1_put_19 : decode cX1_put 19 = .ok (.iload_n 1, 1) := by decide +kernel
theorem dX1_put_20 : decode cX1_put 20 = .ok (.iload_n 3, 1) := by decide +kernel
theorem dX1_put_21 : decode cX1_put 21 = .ok (.invokestatic 36, 3) := by decide +kernel
theorem dX1_put_24 : decode cX1_put 24 = .ok (.iastore, 1) := by decide +kernel
theorem dX1_put_25 : decode cX1_put 25 = .ok (.return_, 1) := by decide +kernel
set_option maxRecDepth 20000 in
theorem ggX1_more_X1_has : GoodIn wsX1_more wsX1_has := goodIn_r _ [6, 7, 8, 9, 10, 18, 19, 20, 21, 22, 23, 24, 25, 26, 27, 28, 29] (by decide +kernel) (by decide +kernel)
set_option maxRecDepth 20000 in
theorem gX1_more_X1_has : GoodIn wsX1_more (wsV RX1 28 RX1 yX1_has wsX1_has) := goodIn_app (goodIn_of _ (by decide +kernel)) ggX1_more_X1_has
set_option maxRecDepth 20000 in
theorem ggX1_more_X1_cut : GoodIn wsX1_more wsX1_cut := goodIn_r _ [13, 14, 15, 16, 17] (by decide +kernel) (by decide +kernel)
set_option maxRecDepth 20000 in
theorem gX1_more_X1_cut : GoodIn wsX1_more (va_wsS RX1 36 yX1_cut wsX1_cut) := goodIn_app (goodIn_of _ (by decide +kernel)) ggX1_more_X1_cut
theorem dX1_more_0 : decode cX1_more 0 = .ok (.aload_n 0, 1) := by decide +kernel
theorem dX1_more_1 : decode cX1_more 1 = .ok (.iload_n 1, 1) := by decide +kernel
theorem dX1_more_2 : decode cX1_more 2 = .ok (.iload_n 2, 1) := by decide +kernel
theorem dX1_more_3 : decode cX1_more 3 = .ok (.invokevirtual 28, 3) := by decide +kernel
theorem dX1_more_6 : decode cX1_more 6 = .ok (.ifCond .eq 31, 3) := by decide +kernel
theorem dX1_more_9 : decode cX1_more 9 = .ok (.aload_n 0, 1) := by decide +kernel
theorem dX1_more_10 : decode cX1_more 10 = .ok (.getfield 13, 3) := by decide +kernel
theorem dX1_more_13 : decode cX1_more 13 = .ok (.bipush 24, 2) := by decide +kernel
theorem dX1_more_15 : decode cX1_more 15 = .ok (.iload_n 1, 1) := by decide +kernel
theorem dX1_more_16 : decode cX1_more 16 = .ok (.imul, 1) := by decide +kernel
theorem dX1_more_17 : decode cX1_more 17 = .ok (.iload_n 2, 1) := by decide +kernel
theorem dX1_more_18 : decode cX1_more 18 = .ok (.iadd, 1) := by decide +kernel
theorem dX1_more_19 : decode cX1_more 19 = .ok (.iload_n 1, 1) := by decide +kernel
theorem dX1_more_20 : decode cX1_more 20 = .ok (.aload_n 0, 1) := by decide +kernel
theorem dX1_more_21 : decode cX1_more 21 = .ok (.getfield 13, 3) := by decide +kernel
theorem dX1_more_24 : decode cX1_more 24 = .ok (.bipush 24, 2) := by decide +kernel
theorem dX1_more_26 : decode cX1_more 26 = .ok (.iload_n 1, 1) := by decide +kernel
theorem dX1_more_27 : decode cX1_more 27 = .ok (.imul, 1) := by decide +kernel
theorem dX1_more_28 : decode cX1_more 28 = .ok (.iload_n 2, 1) := by decide +kernel
theorem dX1_more_29 : decode cX1_more 29 = .ok (.iadd, 1) := by decide +kernel
theorem dX1_more_30 : decode cX1_more 30 = .ok (.iaload, 1) := by decide +kernel
theorem dX1_more_31 : decode cX1_more 31 = .ok (.iload_n 3, 1) := by decide +kernel
theorem dX1_more_32 : decode cX1_more 32 = .ok (.iadd, 1) := by decide +kernel
theorem dX1_more_33 : decode cX1_more 33 = .ok (.invokestatic 36, 3) := by decide +kernel
theorem dX1_more_36 : decode cX1_more 36 = .ok (.iastore, 1) := by decide +kernel
theorem dX1_more_37 : decode cX1_more 37 = .ok (.return_, 1) := by decide +kernel
theorem dX1_answer_0 : decode cX1_answer 0 = .ok (.aload_n 0, 1) := by decide +kernel
theorem dX1_answer_1 : decode cX1_answer 1 = .ok (.getfield 23, 3) := by decide +kernel
theorem dX1_answer_4 : decode cX1_answer 4 = .ok (.ifCond .ne 5, 3) := by decide +kernel
theorem dX1_answer_7 : decode cX1_answer 7 = .ok (.iload_n 1, 1) := by decide +kernel
theorem dX1_answer_8 : decode cX1_answer 8 = .ok (.ireturn, 1) := by decide +kernel
theorem dX1_answer_9 : decode cX1_answer 9 = .ok (.aload_n 0, 1) := by decide +kernel
theorem dX1_answer_10 : decode cX1_answer 10 = .ok (.dup, 1) := by decide +kernel
theorem dX1_answer_11 : decode cX1_answer 11 = .ok (.getfield 40, 3) := by decide +kernel
theorem dX1_answer_14 : decode cX1_answer 14 = .ok (.iconst 1, 1) := by decide +kernel
theorem dX1_answer_15 : decode cX1_answer 15 = .ok (.iadd, 1) := by decide +kernel
theorem dX1_answer_16 : decode cX1_answer 16 = .ok (.putfield 40, 3) := by decide +kernel
theorem dX1_answer_19 : decode cX1_answer 19 = .ok (.aload_n 0, 1) := by decide +kernel
theorem dX1_answer_20 : decode cX1_answer 20 = .ok (.aload_n 0, 1) := by decide +kernel
theorem dX1_answer_21 : decode cX1_answer 21 = .ok (.getfield 23, 3) := by decide +kernel
theorem dX1_answer_24 : decode cX1_answer 24 = .ok (.putfield 43, 3) := by decide +kernel
theorem dX1_answer_27 : decode cX1_answer 27 = .ok (.aload_n 0, 1) := by decide +kernel
theorem dX1_answer_28 : decode cX1_answer 28 = .ok (.getfield 23, 3) := by decide +kernel
theorem dX1_answer_31 : decode cX1_answer 31 = .ok (.ireturn, 1) := by decide +kernel
set_option maxRecDepth 20000 in
theorem ggX1_keep_X1_isBook : GoodIn wsX1_keep wsX1_isBook := goodIn_r _ [7] (by decide +kernel) (by decide +kernel)
set_option maxRecDepth 20000 in
theorem gX1_keep_X1_isBook : GoodIn wsX1_keep (va_wsS RX1 46 yX1_isBook wsX1_isBook) := goodIn_app (goodIn_of _ (by decide +kernel)) ggX1_keep_X1_isBook
theorem dX1_keep_0 : decode cX1_keep 0 = .ok (.iload_n 1, 1) := by decide +kernel
theorem dX1_keep_1 : decode cX1_keep 1 = .ok (.invokestatic 46, 3) := by decide +kernel
theorem dX1_keep_4 : decode cX1_keep 4 = .ok (.ifCond .ne 6, 3) := by decide +kernel
theorem dX1_keep_7 : decode cX1_keep 7 = .ok (.ldc 50, 2) := by decide +kernel
theorem dX1_keep_9 : decode cX1_keep 9 = .ok (.ireturn, 1) := by decide +kernel
theorem dX1_keep_10 : decode cX1_keep 10 = .ok (.iload_n 2, 1) := by decide +kernel
theorem dX1_keep_11 : decode cX1_keep 11 = .ok (.bipush 24, 2) := by decide +kernel
theorem dX1_keep_13 : decode cX1_keep 13 = .ok (.if_icmp .le 6, 3) := by decide +kernel
theorem dX1_keep_16 : decode cX1_keep 16 = .ok (.bipush (-2), 2) := by decide +kernel
theorem dX1_keep_18 : decode cX1_keep 18 = .ok (.ireturn, 1) := by decide +kernel
theorem dX1_keep_19 : decode cX1_keep 19 = .ok (.iload_n 2, 1) := by decide +kernel
theorem dX1_keep_20 : decode cX1_keep 20 = .ok (.ifCond .ge 6, 3) := by decide +kernel
theorem dX1_keep_23 : decode cX1_keep 23 = .ok (.bipush (-3), 2) := by decide +kernel
theorem dX1_keep_25 : decode cX1_keep 25 = .ok (.ireturn, 1) := by decide +kernel
theorem dX1_keep_26 : decode cX1_keep 26 = .ok (.aload_n 0, 1) := by decide +kernel
theorem dX1_keep_27 : decode cX1_keep 27 = .ok (.getfield 7, 3) := by decide +kernel
theorem dX1_keep_30 : decode cX1_keep 30 = .ok (.iload_n 1, 1) := by decide +kernel
theorem dX1_keep_31 : decode cX1_keep 31 = .ok (.iload_n 2, 1) := by decide +kernel
theorem dX1_keep_32 : decode cX1_keep 32 = .ok (.iastore, 1) := by decide +kernel
theorem dX1_keep_33 : decode cX1_keep 33 = .ok (.iconst 0, 1) := by decide +kernel
theorem dX1_keep_34 : decode cX1_keep 34 = .ok (.istore_n 3, 1) := by decide +kernel
theorem dX1_keep_35 : decode cX1_keep 35 = .ok (.iload_n 3, 1) := by decide +kernel
theorem dX1_keep_36 : decode cX1_keep 36 = .ok (.bipush 24, 2) := by decide +kernel
theorem dX1_keep_38 : decode cX1_keep 38 = .ok (.if_icmp .ge 21, 3) := by decide +kernel
theorem dX1_keep_41 : decode cX1_keep 41 = .ok (.aload_n 0, 1) := by decide +kernel
theorem dX1_keep_42 : decode cX1_keep 42 = .ok (.getfield 13, 3) := by decide +kernel
theorem dX1_keep_45 : decode cX1_keep 45 = .ok (.bipush 24, 2) := by decide +kernel
theorem dX1_keep_47 : decode cX1_keep 47 = .ok (.iload_n 1, 1) := by decide +kernel
theorem dX1_keep_48 : decode cX1_keep 48 = .ok (.imul, 1) := by decide +kernel
theorem dX1_keep_49 : decode cX1_keep 49 = .ok (.iload_n 3, 1) := by decide +kernel
theorem dX1_keep_50 : decode cX1_keep 50 = .ok (.iadd, 1) := by decide +kernel
theorem dX1_keep_51 : decode cX1_keep 51 = .ok (.iconst 0, 1) := by decide +kernel
theorem dX1_keep_52 : decode cX1_keep 52 = .ok (.iastore, 1) := by decide +kernel
theorem dX1_keep_53 : decode cX1_keep 53 = .ok (.iinc 3 1, 3) := by decide +kernel
theorem dX1_keep_56 : decode cX1_keep 56 = .ok (.goto (-21), 3) := by decide +kernel
theorem dX1_keep_59 : decode cX1_keep 59 = .ok (.iconst 0, 1) := by decide +kernel
theorem dX1_keep_60 : decode cX1_keep 60 = .ok (.ireturn, 1) := by decide +kernel
set_option maxRecDepth 20000 in
theorem ggX1_lose_X1_isBook : GoodIn wsX1_lose wsX1_isBook := goodIn_r _ [6] (by decide +kernel) (by decide +kernel)
set_option maxRecDepth 20000 in
theorem gX1_lose_X1_isBook : GoodIn wsX1_lose (va_wsS RX1 46 yX1_isBook wsX1_isBook) := goodIn_app (goodIn_of _ (by decide +kernel)) ggX1_lose_X1_isBook
theorem dX1_lose_0 : decode cX1_lose 0 = .ok (.iload_n 1, 1) := by decide +kernel
theorem dX1_lose_1 : decode cX1_lose 1 = .ok (.invokestatic 46, 3) := by decide +kernel
theorem dX1_lose_4 : decode cX1_lose 4 = .ok (.ifCond .ne 6, 3) := by decide +kernel
theorem dX1_lose_7 : decode cX1_lose 7 = .ok (.ldc 50, 2) := by decide +kernel
theorem dX1_lose_9 : decode cX1_lose 9 = .ok (.ireturn, 1) := by decide +kernel
theorem dX1_lose_10 : decode cX1_lose 10 = .ok (.aload_n 0, 1) := by decide +kernel
theorem dX1_lose_11 : decode cX1_lose 11 = .ok (.getfield 7, 3) := by decide +kernel
theorem dX1_lose_14 : decode cX1_lose 14 = .ok (.iload_n 1, 1) := by decide +kernel
theorem dX1_lose_15 : decode cX1_lose 15 = .ok (.iaload, 1) := by decide +kernel
theorem dX1_lose_16 : decode cX1_lose 16 = .ok (.ifCond .lt 7, 3) := by decide +kernel
theorem dX1_lose_19 : decode cX1_lose 19 = .ok (.iconst 1, 1) := by decide +kernel
theorem dX1_lose_20 : decode cX1_lose 20 = .ok (.goto 4, 3) := by decide +kernel
theorem dX1_lose_23 : decode cX1_lose 23 = .ok (.iconst 0, 1) := by decide +kernel
theorem dX1_lose_24 : decode cX1_lose 24 = .ok (.istore_n 2, 1) := by decide +kernel
theorem dX1_lose_25 : decode cX1_lose 25 = .ok (.aload_n 0, 1) := by decide +kernel
theorem dX1_lose_26 : decode cX1_lose 26 = .ok (.getfield 7, 3) := by decide +kernel
theorem dX1_lose_29 : decode cX1_lose 29 = .ok (.iload_n 1, 1) := by decide +kernel
theorem dX1_lose_30 : decode cX1_lose 30 = .ok (.iconst (-1), 1) := by decide +kernel
theorem dX1_lose_31 : decode cX1_lose 31 = .ok (.iastore, 1) := by decide +kernel
theorem dX1_lose_32 : decode cX1_lose 32 = .ok (.iload_n 2, 1) := by decide +kernel
theorem dX1_lose_33 : decode cX1_lose 33 = .ok (.ifCond .eq 7, 3) := by decide +kernel
theorem dX1_lose_36 : decode cX1_lose 36 = .ok (.iconst 1, 1) := by decide +kernel
theorem dX1_lose_37 : decode cX1_lose 37 = .ok (.goto 4, 3) := by decide +kernel
theorem dX1_lose_40 : decode cX1_lose 40 = .ok (.iconst 0, 1) := by decide +kernel
theorem dX1_lose_41 : decode cX1_lose 41 = .ok (.ireturn, 1) := by decide +kernel
set_option maxRecDepth 20000 in
theorem ggX1_lines_X1_isBook : GoodIn wsX1_lines wsX1_isBook := goodIn_r _ [8] (by decide +kernel) (by decide +kernel)
set_option maxRecDepth 20000 in
theorem gX1_lines_X1_isBook : GoodIn wsX1_lines (va_wsS RX1 46 yX1_isBook wsX1_isBook) := goodIn_app (goodIn_of _ (by decide +kernel)) ggX1_lines_X1_isBook
set_option maxRecDepth 20000 in
theorem ggX1_lines_X1_answer : GoodIn wsX1_lines wsX1_answer := goodIn_r _ [12, 4, 13, 14, 15, 16, 17, 18, 19, 20, 21, 22, 23, 24, 25, 26] (by decide +kernel) (by decide +kernel)
set_option maxRecDepth 20000 in
theorem gX1_lines_X1_answer : GoodIn wsX1_lines (wsV RX1 51 RX1 yX1_answer wsX1_answer) := goodIn_app (goodIn_of _ (by decide +kernel)) ggX1_lines_X1_answer
theorem dX1_lines_0 : decode cX1_lines 0 = .ok (.iload_n 1, 1) := by decide +kernel
theorem dX1_lines_1 : decode cX1_lines 1 = .ok (.invokestatic 46, 3) := by decide +kernel
theorem dX1_lines_4 : decode cX1_lines 4 = .ok (.ifCond .ne 6, 3) := by decide +kernel
theorem dX1_lines_7 : decode cX1_lines 7 = .ok (.ldc 50, 2) := by decide +kernel
theorem dX1_lines_9 : decode cX1_lines 9 = .ok (.ireturn, 1) := by decide +kernel
theorem dX1_lines_10 : decode cX1_lines 10 = .ok (.aload_n 0, 1) := by decide +kernel
theorem dX1_lines_11 : decode cX1_lines 11 = .ok (.aload_n 0, 1) := by decide +kernel
theorem dX1_lines_12 : decode cX1_lines 12 = .ok (.getfield 7, 3) := by decide +kernel
theorem dX1_lines_15 : decode cX1_lines 15 = .ok (.iload_n 1, 1) := by decide +kernel
theorem dX1_lines_16 : decode cX1_lines 16 = .ok (.iaload, 1) := by decide +kernel
theorem dX1_lines_17 : decode cX1_lines 17 = .ok (.ifCond .ge 10, 3) := by decide +kernel
theorem dX1_lines_20 : decode cX1_lines 20 = .ok (.ldc 26, 2) := by decide +kernel
theorem dX1_lines_22 : decode cX1_lines 22 = .ok (.iload_n 1, 1) := by decide +kernel
theorem dX1_lines_23 : decode cX1_lines 23 = .ok (.isub, 1) := by decide +kernel
theorem dX1_lines_24 : decode cX1_lines 24 = .ok (.goto 4, 3) := by decide +kernel
theorem dX1_lines_27 : decode cX1_lines 27 = .ok (.iconst 0, 1) := by decide +kernel
theorem dX1_lines_28 : decode cX1_lines 28 = .ok (.putfield 23, 3) := by decide +kernel
theorem dX1_lines_31 : decode cX1_lines 31 = .ok (.aload_n 0, 1) := by decide +kernel
theorem dX1_lines_32 : decode cX1_lines 32 = .ok (.aload_n 0, 1) := by decide +kernel
theorem dX1_lines_33 : decode cX1_lines 33 = .ok (.getfield 7, 3) := by decide +kernel
theorem dX1_lines_36 : decode cX1_lines 36 = .ok (.iload_n 1, 1) := by decide +kernel
theorem dX1_lines_37 : decode cX1_lines 37 = .ok (.iaload, 1) := by decide +kernel
theorem dX1_lines_38 : decode cX1_lines 38 = .ok (.invokevirtual 51, 3) := by decide +kernel
theorem dX1_lines_41 : decode cX1_lines 41 = .ok (.ireturn, 1) := by decide +kernel
set_option maxRecDepth 20000 in
theorem ggX1_read_X1_isBook : GoodIn wsX1_read wsX1_isBook := goodIn_r _ [6] (by decide +kernel) (by decide +kernel)
set_option maxRecDepth 20000 in
theorem gX1_read_X1_isBook : GoodIn wsX1_read (va_wsS RX1 46 yX1_isBook wsX1_isBook) := goodIn_app (goodIn_of _ (by decide +kernel)) ggX1_read_X1_isBook
set_option maxRecDepth 20000 in
theorem ggX1_read_X1_cell : GoodIn wsX1_read wsX1_cell := goodIn_r _ [10, 11, 12, 13, 14, 5, 15, 2, 16, 17, 18, 25, 26, 27, 28, 29, 30, 31, 32, 33, 34, 35, 36] (by decide +kernel) (by decide +kernel)
set_option maxRecDepth 20000 in
theorem gX1_read_X1_cell : GoodIn wsX1_read (wsV RX1 55 RX1 yX1_cell wsX1_cell) := goodIn_app (goodIn_of _ (by decide +kernel)) ggX1_read_X1_cell
set_option maxRecDepth 20000 in
theorem ggX1_read_X1_answer : GoodIn wsX1_read wsX1_answer := goodIn_r _ [22, 2, 23, 24, 25, 26, 27, 28, 29, 30, 31, 32, 33, 34, 35, 36] (by decide +kernel) (by decide +kernel)
set_option maxRecDepth 20000 in
theorem gX1_read_X1_answer : GoodIn wsX1_read (wsV RX1 51 RX1 yX1_answer wsX1_answer) := goodIn_app (goodIn_of _ (by decide +kernel)) ggX1_read_X1_answer
theorem dX1_read_0 : decode cX1_read 0 = .ok (.iload_n 1, 1) := by decide +kernel
theorem dX1_read_1 : decode cX1_read 1 = .ok (.invokestatic 46, 3) := by decide +kernel
theorem dX1_read_4 : decode cX1_read 4 = .ok (.ifCond .ne 6, 3) := by decide +kernel
theorem dX1_read_7 : decode cX1_read 7 = .ok (.ldc 50, 2) := by decide +kernel
theorem dX1_read_9 : decode cX1_read 9 = .ok (.ireturn, 1) := by decide +kernel
theorem dX1_read_10 : decode cX1_read 10 = .ok (.aload_n 0, 1) := by decide +kernel
theorem dX1_read_11 : decode cX1_read 11 = .ok (.iconst 0, 1) := by decide +kernel
theorem dX1_read_12 : decode cX1_read 12 = .ok (.putfield 23, 3) := by decide +kernel
theorem dX1_read_15 : decode cX1_read 15 = .ok (.aload_n 0, 1) := by decide +kernel
theorem dX1_read_16 : decode cX1_read 16 = .ok (.iload_n 1, 1) := by decide +kernel
theorem dX1_read_17 : decode cX1_read 17 = .ok (.iload_n 2, 1) := by decide +kernel
theorem dX1_read_18 : decode cX1_read 18 = .ok (.invokevirtual 55, 3) := by decide +kernel
theorem dX1_read_21 : decode cX1_read 21 = .ok (.istore_n 3, 1) := by decide +kernel
theorem dX1_read_22 : decode cX1_read 22 = .ok (.aload_n 0, 1) := by decide +kernel
theorem dX1_read_23 : decode cX1_read 23 = .ok (.iload_n 3, 1) := by decide +kernel
theorem dX1_read_24 : decode cX1_read 24 = .ok (.invokevirtual 51, 3) := by decide +kernel
theorem dX1_read_27 : decode cX1_read 27 = .ok (.ireturn, 1) := by decide +kernel
theorem dX1_isLoad_0 : decode cX1_isLoad 0 = .ok (.iload_n 0, 1) := by decide +kernel
theorem dX1_isLoad_1 : decode cX1_isLoad 1 = .ok (.sipush (-16000), 3) := by decide +kernel
theorem dX1_isLoad_4 : decode cX1_isLoad 4 = .ok (.if_icmp .lt 14, 3) := by decide +kernel
theorem dX1_isLoad_7 : decode cX1_isLoad 7 = .ok (.iload_n 0, 1) := by decide +kernel
theorem dX1_isLoad_8 : decode cX1_isLoad 8 = .ok (.sipush 16000, 3) := by decide +kernel
theorem dX1_isLoad_11 : decode cX1_isLoad 11 = .ok (.if_icmp .gt 7, 3) := by decide +kernel
theorem dX1_isLoad_14 : decode cX1_isLoad 14 = .ok (.iconst 1, 1) := by decide +kernel
theorem dX1_isLoad_15 : decode cX1_isLoad 15 = .ok (.goto 4, 3) := by decide +kernel
theorem dX1_isLoad_18 : decode cX1_isLoad 18 = .ok (.iconst 0, 1) := by decide +kernel
theorem dX1_isLoad_19 : decode cX1_isLoad 19 = .ok (.ireturn, 1) := by decide +kernel
set_option maxRecDepth 20000 in
theorem ggX1_write_X1_isBook : GoodIn wsX1_write wsX1_isBook := goodIn_r _ [6] (by decide +kernel) (by decide +kernel)
set_option maxRecDepth 20000 in
theorem gX1_write_X1_isBook : GoodIn wsX1_write (va_wsS RX1 46 yX1_isBook wsX1_isBook) := goodIn_app (goodIn_of _ (by decide +kernel)) ggX1_write_X1_isBook
set_option maxRecDepth 20000 in
theorem ggX1_write_X1_isLoad : GoodIn wsX1_write wsX1_isLoad := goodIn_r _ [9] (by decide +kernel) (by decide +kernel)
set_option maxRecDepth 20000 in
theorem gX1_write_X1_isLoad : GoodIn wsX1_write (va_wsS RX1 58 yX1_isLoad wsX1_isLoad) := goodIn_app (goodIn_of _ (by decide +kernel)) ggX1_write_X1_isLoad
set_option maxRecDepth 20000 in
theorem ggX1_write_X1_put : GoodIn wsX1_write wsX1_put := goodIn_r _ [13, 14, 15, 16, 17, 5, 18, 2, 19, 20, 21, 22, 23, 24, 25, 26, 27, 28, 35, 36, 37, 38, 39, 40, 41, 42, 43, 44, 45, 46] (by decide +kernel) (by decide +kernel)
set_option maxRecDepth 20000 in
theorem gX1_write_X1_put : GoodIn wsX1_write (wsV RX1 61 RX1 yX1_put wsX1_put) := goodIn_app (goodIn_of _ (by decide +kernel)) ggX1_write_X1_put
set_option maxRecDepth 20000 in
theorem ggX1_write_X1_answer : GoodIn wsX1_write wsX1_answer := goodIn_r _ [32, 2, 33, 34, 35, 36, 37, 38, 39, 40, 41, 42, 43, 44, 45, 46] (by decide +kernel) (by decide +kernel)
set_option maxRecDepth 20000 in
theorem gX1_write_X1_answer : GoodIn wsX1_write (wsV RX1 51 RX1 yX1_answer wsX1_answer) := goodIn_app (goodIn_of _ (by decide +kernel)) ggX1_write_X1_answer
theorem dX1_write_0 : decode cX1_write 0 = .ok (.iload_n 1, 1) := by decide +kernel
theorem dX1_write_1 : decode cX1_write 1 = .ok (.invokestatic 46, 3) := by decide +kernel
theorem dX1_write_4 : decode cX1_write 4 = .ok (.ifCond .eq 15, 3) := by decide +kernel
theorem dX1_write_7 : decode cX1_write 7 = .ok (.iload_n 1, 1) := by decide +kernel
theorem dX1_write_8 : decode cX1_write 8 = .ok (.iconst 2, 1) := by decide +kernel
theorem dX1_write_9 : decode cX1_write 9 = .ok (.if_icmp .ne 13, 3) := by decide +kernel
theorem dX1_write_12 : decode cX1_write 12 = .ok (.iload_n 3, 1) := by decide +kernel
theorem dX1_write_13 : decode cX1_write 13 = .ok (.invokestatic 58, 3) := by decide +kernel
theorem dX1_write_16 : decode cX1_write 16 = .ok (.ifCond .ne 6, 3) := by decide +kernel
theorem dX1_write_19 : decode cX1_write 19 = .ok (.ldc 50, 2) := by decide +kernel
theorem dX1_write_21 : decode cX1_write 21 = .ok (.ireturn, 1) := by decide +kernel
theorem dX1_write_22 : decode cX1_write 22 = .ok (.aload_n 0, 1) := by decide +kernel
theorem dX1_write_23 : decode cX1_write 23 = .ok (.iconst 0, 1) := by decide +kernel
theorem dX1_write_24 : decode cX1_write 24 = .ok (.putfield 23, 3) := by decide +kernel
theorem dX1_write_27 : decode cX1_write 27 = .ok (.aload_n 0, 1) := by decide +kernel
theorem dX1_write_28 : decode cX1_write 28 = .ok (.iload_n 1, 1) := by decide +kernel
theorem dX1_write_29 : decode cX1_write 29 = .ok (.iload_n 2, 1) := by decide +kernel
theorem dX1_write_30 : decode cX1_write 30 = .ok (.iload_n 3, 1) := by decide +kernel
theorem dX1_write_31 : decode cX1_write 31 = .ok (.invokevirtual 61, 3) := by decide +kernel
theorem dX1_write_34 : decode cX1_write 34 = .ok (.aload_n 0, 1) := by decide +kernel
theorem dX1_write_35 : decode cX1_write 35 = .ok (.iconst 0, 1) := by decide +kernel
theorem dX1_write_36 : decode cX1_write 36 = .ok (.invokevirtual 51, 3) := by decide +kernel
theorem dX1_write_39 : decode cX1_write 39 = .ok (.ireturn, 1) := by decide +kernel
theorem dX1_gate_0 : decode cX1_gate 0 = .ok (.iload_n 2, 1) := by decide +kernel
theorem dX1_gate_1 : decode cX1_gate 1 = .ok (.iconst 1, 1) := by decide +kernel
theorem dX1_gate_2 : decode cX1_gate 2 = .ok (.iand, 1) := by decide +kernel
theorem dX1_gate_3 : decode cX1_gate 3 = .ok (.istore_n 3, 1) := by decide +kernel
theorem dX1_gate_4 : decode cX1_gate 4 = .ok (.iload_n 1, 1) := by decide +kernel
theorem dX1_gate_5 : decode cX1_gate 5 = .ok (.ifCond .ne 19, 3) := by decide +kernel
theorem dX1_gate_8 : decode cX1_gate 8 = .ok (.iload_n 0, 1) := by decide +kernel
theorem dX1_gate_9 : decode cX1_gate 9 = .ok (.iconst 1, 1) := by decide +kernel
theorem dX1_gate_10 : decode cX1_gate 10 = .ok (.if_icmp .eq 8, 3) := by decide +kernel
theorem dX1_gate_13 : decode cX1_gate 13 = .ok (.iload_n 3, 1) := by decide +kernel
theorem dX1_gate_14 : decode cX1_gate 14 = .ok (.iconst 1, 1) := by decide +kernel
theorem dX1_gate_15 : decode cX1_gate 15 = .ok (.if_icmp .ne 7, 3) := by decide +kernel
theorem dX1_gate_18 : decode cX1_gate 18 = .ok (.iconst 1, 1) := by decide +kernel
theorem dX1_gate_19 : decode cX1_gate 19 = .ok (.goto 4, 3) := by decide +kernel
theorem dX1_gate_22 : decode cX1_gate 22 = .ok (.iconst 0, 1) := by decide +kernel
theorem dX1_gate_23 : decode cX1_gate 23 = .ok (.ireturn, 1) := by decide +kernel
theorem dX1_gate_24 : decode cX1_gate 24 = .ok (.iload_n 1, 1) := by decide +kernel
theorem dX1_gate_25 : decode cX1_gate 25 = .ok (.iconst 1, 1) := by decide +kernel
theorem dX1_gate_26 : decode cX1_gate 26 = .ok (.if_icmp .ne 19, 3) := by decide +kernel
theorem dX1_gate_29 : decode cX1_gate 29 = .ok (.iload_n 0, 1) := by decide +kernel
theorem dX1_gate_30 : decode cX1_gate 30 = .ok (.iconst 1, 1) := by decide +kernel
theorem dX1_gate_31 : decode cX1_gate 31 = .ok (.if_icmp .ne 12, 3) := by decide +kernel
theorem dX1_gate_34 : decode cX1_gate 34 = .ok (.iload_n 3, 1) := by decide +kernel
theorem dX1_gate_35 : decode cX1_gate 35 = .ok (.iconst 1, 1) := by decide +kernel
theorem dX1_gate_36 : decode cX1_gate 36 = .ok (.if_icmp .ne 7, 3) := by decide +kernel
theorem dX1_gate_39 : decode cX1_gate 39 = .ok (.iconst 1, 1) := by decide +kernel
theorem dX1_gate_40 : decode cX1_gate 40 = .ok (.goto 4, 3) := by decide +kernel
theorem dX1_gate_43 : decode cX1_gate 43 = .ok (.iconst 0, 1) := by decide +kernel
theorem dX1_gate_44 : decode cX1_gate 44 = .ok (.ireturn, 1) := by decide +kernel
theorem dX1_gate_45 : decode cX1_gate 45 = .ok (.iload_n 1, 1) := by decide +kernel
theorem dX1_gate_46 : decode cX1_gate 46 = .ok (.iconst 2, 1) := by decide +kernel
end
section
theorem dX1_gate_47 : decode cX1_gate 47 = .ok (.if_icmp .eq 8, 3) := by decide +kernel
theorem dX1_gate_50 : decode cX1_gate 50 = .ok (.iload_n 3, 1) := by decide +kernel
theorem dX1_gate_51 : decode cX1_gate 51 = .ok (.iconst 1, 1) := by decide +kernel
theorem dX1_gate_52 : decode cX1_gate 52 = .ok (.if_icmp .ne 9, 3) := by decide +kernel
theorem dX1_gate_55 : decode cX1_gate 55 = .ok (.iconst 1, 1) := by decide +kernel
theorem dX1_gate_56 : decode cX1_gate 56 = .ok (.iload_n 0, 1) := by decide +kernel
theorem dX1_gate_57 : decode cX1_gate 57 = .ok (.isub, 1) := by decide +kernel
theorem dX1_gate_58 : decode cX1_gate 58 = .ok (.goto 4, 3) := by decide +kernel
theorem dX1_gate_61 : decode cX1_gate 61 = .ok (.iload_n 0, 1) := by decide +kernel
theorem dX1_gate_62 : decode cX1_gate 62 = .ok (.ireturn, 1) := by decide +kernel
set_option maxRecDepth 20000 in
theorem ggX1_change_X1_isBook : GoodIn wsX1_change wsX1_isBook := goodIn_r _ [6] (by decide +kernel) (by decide +kernel)
set_option maxRecDepth 20000 in
theorem gX1_change_X1_isBook : GoodIn wsX1_change (va_wsS RX1 46 yX1_isBook wsX1_isBook) := goodIn_app (goodIn_of _ (by decide +kernel)) ggX1_change_X1_isBook
set_option maxRecDepth 20000 in
theorem ggX1_change_X1_isLoad : GoodIn wsX1_change wsX1_isLoad := goodIn_r _ [9] (by decide +kernel) (by decide +kernel)
set_option maxRecDepth 20000 in
theorem gX1_change_X1_isLoad : GoodIn wsX1_change (va_wsS RX1 58 yX1_isLoad wsX1_isLoad) := goodIn_app (goodIn_of _ (by decide +kernel)) ggX1_change_X1_isLoad
set_option maxRecDepth 20000 in
theorem ggX1_change_X1_cell : GoodIn wsX1_change wsX1_cell := goodIn_r _ [13, 14, 15, 16, 17, 5, 18, 2, 19, 20, 21, 42, 43, 44, 45, 46, 47, 48, 49, 50, 51, 52, 53] (by decide +kernel) (by decide +kernel)
set_option maxRecDepth 20000 in
theorem gX1_change_X1_cell : GoodIn wsX1_change (wsV RX1 55 RX1 yX1_cell wsX1_cell) := goodIn_app (goodIn_of _ (by decide +kernel)) ggX1_change_X1_cell
set_option maxRecDepth 20000 in
theorem ggX1_change_X1_gate : GoodIn wsX1_change wsX1_gate := goodIn_r _ [24] (by decide +kernel) (by decide +kernel)
set_option maxRecDepth 20000 in
theorem gX1_change_X1_gate : GoodIn wsX1_change (va_wsS RX1 65 yX1_gate wsX1_gate) := goodIn_app (goodIn_of _ (by decide +kernel)) ggX1_change_X1_gate
set_option maxRecDepth 20000 in
theorem ggX1_change_X1_put : GoodIn wsX1_change wsX1_put := goodIn_r _ [28, 14, 15, 16, 17, 5, 18, 2, 19, 20, 21, 29, 30, 31, 32, 33, 34, 35, 42, 43, 44, 45, 46, 47, 48, 49, 50, 51, 52, 53] (by decide +kernel) (by decide +kernel)
set_option maxRecDepth 20000 in
theorem gX1_change_X1_put : GoodIn wsX1_change (wsV RX1 61 RX1 yX1_put wsX1_put) := goodIn_app (goodIn_of _ (by decide +kernel)) ggX1_change_X1_put
set_option maxRecDepth 20000 in
theorem ggX1_change_X1_answer : GoodIn wsX1_change wsX1_answer := goodIn_r _ [39, 2, 40, 41, 42, 43, 44, 45, 46, 47, 48, 49, 50, 51, 52, 53] (by decide +kernel) (by decide +kernel)
set_option maxRecDepth 20000 in
theorem gX1_change_X1_answer : GoodIn wsX1_change (wsV RX1 51 RX1 yX1_answer wsX1_answer) := goodIn_app (goodIn_of _ (by decide +kernel)) ggX1_change_X1_answer
theorem dX1_change_0 : decode cX1_change 0 = .ok (.iload_n 1, 1) := by decide +kernel
theorem dX1_change_1 : decode cX1_change 1 = .ok (.invokestatic 46, 3) := by decide +kernel
theorem dX1_change_4 : decode cX1_change 4 = .ok (.ifCond .eq 16, 3) := by decide +kernel
theorem dX1_change_7 : decode cX1_change 7 = .ok (.iload_n 3, 1) := by decide +kernel
theorem dX1_change_8 : decode cX1_change 8 = .ok (.ifCond .lt 12, 3) := by decide +kernel
theorem dX1_change_11 : decode cX1_change 11 = .ok (.iload_n 3, 1) := by decide +kernel
theorem dX1_change_12 : decode cX1_change 12 = .ok (.iconst 4, 1) := by decide +kernel
theorem dX1_change_13 : decode cX1_change 13 = .ok (.if_icmp .ge 7, 3) := by decide +kernel
theorem dX1_change_16 : decode cX1_change 16 = .ok (.iconst 1, 1) := by decide +kernel
theorem dX1_change_17 : decode cX1_change 17 = .ok (.goto 4, 3) := by decide +kernel
theorem dX1_change_20 : decode cX1_change 20 = .ok (.iconst 0, 1) := by decide +kernel
theorem dX1_change_21 : decode cX1_change 21 = .ok (.istore 5, 2) := by decide +kernel
theorem dX1_change_23 : decode cX1_change 23 = .ok (.iload 5, 2) := by decide +kernel
theorem dX1_change_25 : decode cX1_change 25 = .ok (.ifCond .eq 21, 3) := by decide +kernel
theorem dX1_change_28 : decode cX1_change 28 = .ok (.iload_n 1, 1) := by decide +kernel
theorem dX1_change_29 : decode cX1_change 29 = .ok (.iconst 2, 1) := by decide +kernel
theorem dX1_change_30 : decode cX1_change 30 = .ok (.if_icmp .ne 19, 3) := by decide +kernel
theorem dX1_change_33 : decode cX1_change 33 = .ok (.iload_n 3, 1) := by decide +kernel
theorem dX1_change_34 : decode cX1_change 34 = .ok (.iconst 2, 1) := by decide +kernel
theorem dX1_change_35 : decode cX1_change 35 = .ok (.if_icmp .ge 14, 3) := by decide +kernel
theorem dX1_change_38 : decode cX1_change 38 = .ok (.iload 4, 2) := by decide +kernel
theorem dX1_change_40 : decode cX1_change 40 = .ok (.invokestatic 58, 3) := by decide +kernel
theorem dX1_change_43 : decode cX1_change 43 = .ok (.ifCond .ne 6, 3) := by decide +kernel
theorem dX1_change_46 : decode cX1_change 46 = .ok (.ldc 50, 2) := by decide +kernel
theorem dX1_change_48 : decode cX1_change 48 = .ok (.ireturn, 1) := by decide +kernel
theorem dX1_change_49 : decode cX1_change 49 = .ok (.aload_n 0, 1) := by decide +kernel
theorem dX1_change_50 : decode cX1_change 50 = .ok (.iconst 0, 1) := by decide +kernel
theorem dX1_change_51 : decode cX1_change 51 = .ok (.putfield 23, 3) := by decide +kernel
theorem dX1_change_54 : decode cX1_change 54 = .ok (.aload_n 0, 1) := by decide +kernel
theorem dX1_change_55 : decode cX1_change 55 = .ok (.iload_n 1, 1) := by decide +kernel
theorem dX1_change_56 : decode cX1_change 56 = .ok (.iload_n 2, 1) := by decide +kernel
theorem dX1_change_57 : decode cX1_change 57 = .ok (.invokevirtual 55, 3) := by decide +kernel
theorem dX1_change_60 : decode cX1_change 60 = .ok (.istore 6, 2) := by decide +kernel
theorem dX1_change_62 : decode cX1_change 62 = .ok (.iload_n 1, 1) := by decide +kernel
theorem dX1_change_63 : decode cX1_change 63 = .ok (.iconst 2, 1) := by decide +kernel
theorem dX1_change_64 : decode cX1_change 64 = .ok (.if_icmp .ne 8, 3) := by decide +kernel
theorem dX1_change_67 : decode cX1_change 67 = .ok (.bipush 8, 2) := by decide +kernel
theorem dX1_change_69 : decode cX1_change 69 = .ok (.goto 4, 3) := by decide +kernel
theorem dX1_change_72 : decode cX1_change 72 = .ok (.iconst 1, 1) := by decide +kernel
theorem dX1_change_73 : decode cX1_change 73 = .ok (.istore 7, 2) := by decide +kernel
theorem dX1_change_75 : decode cX1_change 75 = .ok (.iload_n 3, 1) := by decide +kernel
theorem dX1_change_76 : decode cX1_change 76 = .ok (.ifCond .ne 8, 3) := by decide +kernel
theorem dX1_change_79 : decode cX1_change 79 = .ok (.iload 4, 2) := by decide +kernel
theorem dX1_change_81 : decode cX1_change 81 = .ok (.goto 27, 3) := by decide +kernel
theorem dX1_change_84 : decode cX1_change 84 = .ok (.iload_n 3, 1) := by decide +kernel
theorem dX1_change_85 : decode cX1_change 85 = .ok (.iconst 1, 1) := by decide +kernel
theorem dX1_change_86 : decode cX1_change 86 = .ok (.if_icmp .ne 9, 3) := by decide +kernel
theorem dX1_change_89 : decode cX1_change 89 = .ok (.iload 4, 2) := by decide +kernel
theorem dX1_change_91 : decode cX1_change 91 = .ok (.ineg, 1) := by decide +kernel
theorem dX1_change_92 : decode cX1_change 92 = .ok (.goto 16, 3) := by decide +kernel
theorem dX1_change_95 : decode cX1_change 95 = .ok (.iload_n 3, 1) := by decide +kernel
theorem dX1_change_96 : decode cX1_change 96 = .ok (.iconst 2, 1) := by decide +kernel
theorem dX1_change_97 : decode cX1_change 97 = .ok (.if_icmp .ne 8, 3) := by decide +kernel
theorem dX1_change_100 : decode cX1_change 100 = .ok (.iload 7, 2) := by decide +kernel
theorem dX1_change_102 : decode cX1_change 102 = .ok (.goto 6, 3) := by decide +kernel
theorem dX1_change_105 : decode cX1_change 105 = .ok (.iload 7, 2) := by decide +kernel
theorem dX1_change_107 : decode cX1_change 107 = .ok (.ineg, 1) := by decide +kernel
theorem dX1_change_108 : decode cX1_change 108 = .ok (.istore 8, 2) := by decide +kernel
theorem dX1_change_110 : decode cX1_change 110 = .ok (.aload_n 0, 1) := by decide +kernel
theorem dX1_change_111 : decode cX1_change 111 = .ok (.iload_n 1, 1) := by decide +kernel
theorem dX1_change_112 : decode cX1_change 112 = .ok (.iload_n 2, 1) := by decide +kernel
theorem dX1_change_113 : decode cX1_change 113 = .ok (.iload_n 1, 1) := by decide +kernel
theorem dX1_change_114 : decode cX1_change 114 = .ok (.iconst 3, 1) := by decide +kernel
theorem dX1_change_115 : decode cX1_change 115 = .ok (.if_icmp .ne 14, 3) := by decide +kernel
theorem dX1_change_118 : decode cX1_change 118 = .ok (.iload 6, 2) := by decide +kernel
theorem dX1_change_120 : decode cX1_change 120 = .ok (.iload_n 3, 1) := by decide +kernel
theorem dX1_change_121 : decode cX1_change 121 = .ok (.iload 4, 2) := by decide +kernel
theorem dX1_change_123 : decode cX1_change 123 = .ok (.invokestatic 65, 3) := by decide +kernel
theorem dX1_change_126 : decode cX1_change 126 = .ok (.goto 8, 3) := by decide +kernel
theorem dX1_change_129 : decode cX1_change 129 = .ok (.iload 6, 2) := by decide +kernel
theorem dX1_change_131 : decode cX1_change 131 = .ok (.iload 8, 2) := by decide +kernel
theorem dX1_change_133 : decode cX1_change 133 = .ok (.iadd, 1) := by decide +kernel
theorem dX1_change_134 : decode cX1_change 134 = .ok (.invokevirtual 61, 3) := by decide +kernel
theorem dX1_change_137 : decode cX1_change 137 = .ok (.aload_n 0, 1) := by decide +kernel
theorem dX1_change_138 : decode cX1_change 138 = .ok (.iload_n 1, 1) := by decide +kernel
theorem dX1_change_139 : decode cX1_change 139 = .ok (.iload_n 2, 1) := by decide +kernel
theorem dX1_change_140 : decode cX1_change 140 = .ok (.invokevirtual 55, 3) := by decide +kernel
theorem dX1_change_143 : decode cX1_change 143 = .ok (.istore 9, 2) := by decide +kernel
theorem dX1_change_145 : decode cX1_change 145 = .ok (.aload_n 0, 1) := by decide +kernel
theorem dX1_change_146 : decode cX1_change 146 = .ok (.iload 9, 2) := by decide +kernel
theorem dX1_change_148 : decode cX1_change 148 = .ok (.invokevirtual 51, 3) := by decide +kernel
theorem dX1_change_151 : decode cX1_change 151 = .ok (.ireturn, 1) := by decide +kernel
set_option maxRecDepth 20000 in
theorem ggX1_tally_X1_isBook : GoodIn wsX1_tally wsX1_isBook := goodIn_r _ [9] (by decide +kernel) (by decide +kernel)
set_option maxRecDepth 20000 in
theorem gX1_tally_X1_isBook : GoodIn wsX1_tally (va_wsS RX1 46 yX1_isBook wsX1_isBook) := goodIn_app (goodIn_of _ (by decide +kernel)) ggX1_tally_X1_isBook
set_option maxRecDepth 20000 in
theorem ggX1_tally_X1_answer : GoodIn wsX1_tally wsX1_answer := goodIn_r _ [13, 4, 14, 15, 16, 17, 18, 19, 20, 21, 22, 23, 24, 25, 26, 27] (by decide +kernel) (by decide +kernel)
set_option maxRecDepth 20000 in
theorem gX1_tally_X1_answer : GoodIn wsX1_tally (wsV RX1 51 RX1 yX1_answer wsX1_answer) := goodIn_app (goodIn_of _ (by decide +kernel)) ggX1_tally_X1_answer
theorem dX1_tally_0 : decode cX1_tally 0 = .ok (.iload_n 1, 1) := by decide +kernel
theorem dX1_tally_1 : decode cX1_tally 1 = .ok (.invokestatic 46, 3) := by decide +kernel
theorem dX1_tally_4 : decode cX1_tally 4 = .ok (.ifCond .ne 6, 3) := by decide +kernel
theorem dX1_tally_7 : decode cX1_tally 7 = .ok (.ldc 50, 2) := by decide +kernel
theorem dX1_tally_9 : decode cX1_tally 9 = .ok (.ireturn, 1) := by decide +kernel
theorem dX1_tally_10 : decode cX1_tally 10 = .ok (.aload_n 0, 1) := by decide +kernel
theorem dX1_tally_11 : decode cX1_tally 11 = .ok (.aload_n 0, 1) := by decide +kernel
theorem dX1_tally_12 : decode cX1_tally 12 = .ok (.getfield 7, 3) := by decide +kernel
theorem dX1_tally_15 : decode cX1_tally 15 = .ok (.iload_n 1, 1) := by decide +kernel
theorem dX1_tally_16 : decode cX1_tally 16 = .ok (.iaload, 1) := by decide +kernel
theorem dX1_tally_17 : decode cX1_tally 17 = .ok (.ifCond .ge 10, 3) := by decide +kernel
theorem dX1_tally_20 : decode cX1_tally 20 = .ok (.ldc 26, 2) := by decide +kernel
theorem dX1_tally_22 : decode cX1_tally 22 = .ok (.iload_n 1, 1) := by decide +kernel
theorem dX1_tally_23 : decode cX1_tally 23 = .ok (.isub, 1) := by decide +kernel
theorem dX1_tally_24 : decode cX1_tally 24 = .ok (.goto 4, 3) := by decide +kernel
theorem dX1_tally_27 : decode cX1_tally 27 = .ok (.iconst 0, 1) := by decide +kernel
theorem dX1_tally_28 : decode cX1_tally 28 = .ok (.putfield 23, 3) := by decide +kernel
theorem dX1_tally_31 : decode cX1_tally 31 = .ok (.iconst 0, 1) := by decide +kernel
theorem dX1_tally_32 : decode cX1_tally 32 = .ok (.istore_n 2, 1) := by decide +kernel
theorem dX1_tally_33 : decode cX1_tally 33 = .ok (.iconst 0, 1) := by decide +kernel
theorem dX1_tally_34 : decode cX1_tally 34 = .ok (.istore_n 3, 1) := by decide +kernel
theorem dX1_tally_35 : decode cX1_tally 35 = .ok (.iload_n 3, 1) := by decide +kernel
theorem dX1_tally_36 : decode cX1_tally 36 = .ok (.aload_n 0, 1) := by decide +kernel
theorem dX1_tally_37 : decode cX1_tally 37 = .ok (.getfield 7, 3) := by decide +kernel
theorem dX1_tally_40 : decode cX1_tally 40 = .ok (.iload_n 1, 1) := by decide +kernel
theorem dX1_tally_41 : decode cX1_tally 41 = .ok (.iaload, 1) := by decide +kernel
theorem dX1_tally_42 : decode cX1_tally 42 = .ok (.if_icmp .ge 23, 3) := by decide +kernel
theorem dX1_tally_45 : decode cX1_tally 45 = .ok (.iload_n 2, 1) := by decide +kernel
theorem dX1_tally_46 : decode cX1_tally 46 = .ok (.aload_n 0, 1) := by decide +kernel
theorem dX1_tally_47 : decode cX1_tally 47 = .ok (.getfield 13, 3) := by decide +kernel
theorem dX1_tally_50 : decode cX1_tally 50 = .ok (.bipush 24, 2) := by decide +kernel
theorem dX1_tally_52 : decode cX1_tally 52 = .ok (.iload_n 1, 1) := by decide +kernel
theorem dX1_tally_53 : decode cX1_tally 53 = .ok (.imul, 1) := by decide +kernel
theorem dX1_tally_54 : decode cX1_tally 54 = .ok (.iload_n 3, 1) := by decide +kernel
theorem dX1_tally_55 : decode cX1_tally 55 = .ok (.iadd, 1) := by decide +kernel
theorem dX1_tally_56 : decode cX1_tally 56 = .ok (.iaload, 1) := by decide +kernel
theorem dX1_tally_57 : decode cX1_tally 57 = .ok (.iadd, 1) := by decide +kernel
theorem dX1_tally_58 : decode cX1_tally 58 = .ok (.istore_n 2, 1) := by decide +kernel
theorem dX1_tally_59 : decode cX1_tally 59 = .ok (.iinc 3 1, 3) := by decide +kernel
theorem dX1_tally_62 : decode cX1_tally 62 = .ok (.goto (-27), 3) := by decide +kernel
theorem dX1_tally_65 : decode cX1_tally 65 = .ok (.aload_n 0, 1) := by decide +kernel
theorem dX1_tally_66 : decode cX1_tally 66 = .ok (.iload_n 2, 1) := by decide +kernel
theorem dX1_tally_67 : decode cX1_tally 67 = .ok (.invokevirtual 51, 3) := by decide +kernel
theorem dX1_tally_70 : decode cX1_tally 70 = .ok (.ireturn, 1) := by decide +kernel
set_option maxRecDepth 20000 in
theorem ggX1_copy_X1_isBook : GoodIn wsX1_copy wsX1_isBook := goodIn_r _ [9] (by decide +kernel) (by decide +kernel)
set_option maxRecDepth 20000 in
theorem gX1_copy_X1_isBook : GoodIn wsX1_copy (va_wsS RX1 46 yX1_isBook wsX1_isBook) := goodIn_app (goodIn_of _ (by decide +kernel)) ggX1_copy_X1_isBook
set_option maxRecDepth 20000 in
theorem ggX1_copy_X1_put : GoodIn wsX1_copy wsX1_put := goodIn_r _ [13, 5, 14, 15, 16, 8, 17, 4, 2, 3, 18, 19, 20, 21, 22, 23, 24, 25, 32, 33, 34, 35, 36, 37, 38, 39, 40, 41, 42, 43] (by decide +kernel) (by decide +kernel)
set_option maxRecDepth 20000 in
theorem gX1_copy_X1_put : GoodIn wsX1_copy (wsV RX1 61 RX1 yX1_put wsX1_put) := goodIn_app (goodIn_of _ (by decide +kernel)) ggX1_copy_X1_put
set_option maxRecDepth 20000 in
theorem ggX1_copy_X1_answer : GoodIn wsX1_copy wsX1_answer := goodIn_r _ [29, 4, 30, 31, 32, 33, 34, 35, 36, 37, 38, 39, 40, 41, 42, 43] (by decide +kernel) (by decide +kernel)
set_option maxRecDepth 20000 in
theorem gX1_copy_X1_answer : GoodIn wsX1_copy (wsV RX1 51 RX1 yX1_answer wsX1_answer) := goodIn_app (goodIn_of _ (by decide +kernel)) ggX1_copy_X1_answer
theorem dX1_copy_0 : decode cX1_copy 0 = .ok (.iload_n 1, 1) := by decide +kernel
theorem dX1_copy_1 : decode cX1_copy 1 = .ok (.invokestatic 46, 3) := by decide +kernel
theorem dX1_copy_4 : decode cX1_copy 4 = .ok (.ifCond .eq 15, 3) := by decide +kernel
theorem dX1_copy_7 : decode cX1_copy 7 = .ok (.iload_n 2, 1) := by decide +kernel
theorem dX1_copy_8 : decode cX1_copy 8 = .ok (.invokestatic 46, 3) := by decide +kernel
theorem dX1_copy_11 : decode cX1_copy 11 = .ok (.ifCond .eq 8, 3) := by decide +kernel
theorem dX1_copy_14 : decode cX1_copy 14 = .ok (.iload_n 1, 1) := by decide +kernel
theorem dX1_copy_15 : decode cX1_copy 15 = .ok (.iload_n 2, 1) := by decide +kernel
theorem dX1_copy_16 : decode cX1_copy 16 = .ok (.if_icmp .ne 6, 3) := by decide +kernel
theorem dX1_copy_19 : decode cX1_copy 19 = .ok (.ldc 50, 2) := by decide +kernel
theorem dX1_copy_21 : decode cX1_copy 21 = .ok (.ireturn, 1) := by decide +kernel
theorem dX1_copy_22 : decode cX1_copy 22 = .ok (.aload_n 0, 1) := by decide +kernel
theorem dX1_copy_23 : decode cX1_copy 23 = .ok (.aload_n 0, 1) := by decide +kernel
theorem dX1_copy_24 : decode cX1_copy 24 = .ok (.getfield 7, 3) := by decide +kernel
theorem dX1_copy_27 : decode cX1_copy 27 = .ok (.iload_n 1, 1) := by decide +kernel
theorem dX1_copy_28 : decode cX1_copy 28 = .ok (.iaload, 1) := by decide +kernel
theorem dX1_copy_29 : decode cX1_copy 29 = .ok (.ifCond .ge 10, 3) := by decide +kernel
theorem dX1_copy_32 : decode cX1_copy 32 = .ok (.ldc 26, 2) := by decide +kernel
theorem dX1_copy_34 : decode cX1_copy 34 = .ok (.iload_n 1, 1) := by decide +kernel
theorem dX1_copy_35 : decode cX1_copy 35 = .ok (.isub, 1) := by decide +kernel
theorem dX1_copy_36 : decode cX1_copy 36 = .ok (.goto 4, 3) := by decide +kernel
theorem dX1_copy_39 : decode cX1_copy 39 = .ok (.iconst 0, 1) := by decide +kernel
theorem dX1_copy_40 : decode cX1_copy 40 = .ok (.putfield 23, 3) := by decide +kernel
theorem dX1_copy_43 : decode cX1_copy 43 = .ok (.iconst 0, 1) := by decide +kernel
theorem dX1_copy_44 : decode cX1_copy 44 = .ok (.istore_n 3, 1) := by decide +kernel
theorem dX1_copy_45 : decode cX1_copy 45 = .ok (.iload_n 3, 1) := by decide +kernel
theorem dX1_copy_46 : decode cX1_copy 46 = .ok (.aload_n 0, 1) := by decide +kernel
theorem dX1_copy_47 : decode cX1_copy 47 = .ok (.getfield 7, 3) := by decide +kernel
theorem dX1_copy_50 : decode cX1_copy 50 = .ok (.iload_n 1, 1) := by decide +kernel
theorem dX1_copy_51 : decode cX1_copy 51 = .ok (.iaload, 1) := by decide +kernel
theorem dX1_copy_52 : decode cX1_copy 52 = .ok (.if_icmp .ge 67, 3) := by decide +kernel
theorem dX1_copy_55 : decode cX1_copy 55 = .ok (.aload_n 0, 1) := by decide +kernel
theorem dX1_copy_56 : decode cX1_copy 56 = .ok (.getfield 13, 3) := by decide +kernel
theorem dX1_copy_59 : decode cX1_copy 59 = .ok (.bipush 24, 2) := by decide +kernel
theorem dX1_copy_61 : decode cX1_copy 61 = .ok (.iload_n 1, 1) := by decide +kernel
theorem dX1_copy_62 : decode cX1_copy 62 = .ok (.imul, 1) := by decide +kernel
theorem dX1_copy_63 : decode cX1_copy 63 = .ok (.iload_n 3, 1) := by decide +kernel
theorem dX1_copy_64 : decode cX1_copy 64 = .ok (.iadd, 1) := by decide +kernel
theorem dX1_copy_65 : decode cX1_copy 65 = .ok (.iaload, 1) := by decide +kernel
theorem dX1_copy_66 : decode cX1_copy 66 = .ok (.istore 4, 2) := by decide +kernel
theorem dX1_copy_68 : decode cX1_copy 68 = .ok (.iload_n 2, 1) := by decide +kernel
theorem dX1_copy_69 : decode cX1_copy 69 = .ok (.iconst 2, 1) := by decide +kernel
theorem dX1_copy_70 : decode cX1_copy 70 = .ok (.if_icmp .ne 35, 3) := by decide +kernel
theorem dX1_copy_73 : decode cX1_copy 73 = .ok (.iload 4, 2) := by decide +kernel
theorem dX1_copy_75 : decode cX1_copy 75 = .ok (.sipush 16000, 3) := by decide +kernel
theorem dX1_copy_78 : decode cX1_copy 78 = .ok (.if_icmp .le 9, 3) := by decide +kernel
theorem dX1_copy_81 : decode cX1_copy 81 = .ok (.sipush 16000, 3) := by decide +kernel
theorem dX1_copy_84 : decode cX1_copy 84 = .ok (.goto 19, 3) := by decide +kernel
theorem dX1_copy_87 : decode cX1_copy 87 = .ok (.iload 4, 2) := by decide +kernel
theorem dX1_copy_89 : decode cX1_copy 89 = .ok (.sipush (-16000), 3) := by decide +kernel
theorem dX1_copy_92 : decode cX1_copy 92 = .ok (.if_icmp .ge 9, 3) := by decide +kernel
theorem dX1_copy_95 : decode cX1_copy 95 = .ok (.sipush (-16000), 3) := by decide +kernel
theorem dX1_copy_98 : decode cX1_copy 98 = .ok (.goto 5, 3) := by decide +kernel
theorem dX1_copy_101 : decode cX1_copy 101 = .ok (.iload 4, 2) := by decide +kernel
theorem dX1_copy_103 : decode cX1_copy 103 = .ok (.istore 4, 2) := by decide +kernel
theorem dX1_copy_105 : decode cX1_copy 105 = .ok (.aload_n 0, 1) := by decide +kernel
theorem dX1_copy_106 : decode cX1_copy 106 = .ok (.iload_n 2, 1) := by decide +kernel
theorem dX1_copy_107 : decode cX1_copy 107 = .ok (.iload_n 3, 1) := by decide +kernel
theorem dX1_copy_108 : decode cX1_copy 108 = .ok (.iload 4, 2) := by decide +kernel
theorem dX1_copy_110 : decode cX1_copy 110 = .ok (.invokevirtual 61, 3) := by decide +kernel
theorem dX1_copy_113 : decode cX1_copy 113 = .ok (.iinc 3 1, 3) := by decide +kernel
theorem dX1_copy_116 : decode cX1_copy 116 = .ok (.goto (-71), 3) := by decide +kernel
theorem dX1_copy_119 : decode cX1_copy 119 = .ok (.aload_n 0, 1) := by decide +kernel
theorem dX1_copy_120 : decode cX1_copy 120 = .ok (.aload_n 0, 1) := by decide +kernel
theorem dX1_copy_121 : decode cX1_copy 121 = .ok (.getfield 7, 3) := by decide +kernel
theorem dX1_copy_124 : decode cX1_copy 124 = .ok (.iload_n 1, 1) := by decide +kernel
theorem dX1_copy_125 : decode cX1_copy 125 = .ok (.iaload, 1) := by decide +kernel
theorem dX1_copy_126 : decode cX1_copy 126 = .ok (.invokevirtual 51, 3) := by decide +kernel
theorem dX1_copy_129 : decode cX1_copy 129 = .ok (.ireturn, 1) := by decide +kernel
set_option maxRecDepth 20000 in
theorem ggX1_sluice_X1_isChamber : GoodIn wsX1_sluice wsX1_isChamber := goodIn_r _ [8, 3, 38, 39, 40, 41, 42, 43, 44, 45, 46, 47, 48, 49] (by decide +kernel) (by decide +kernel)
set_option maxRecDepth 20000 in
theorem gX1_sluice_X1_isChamber : GoodIn wsX1_sluice (wsV RX1 69 RX1 yX1_isChamber wsX1_isChamber) := goodIn_app (goodIn_of _ (by decide +kernel)) ggX1_sluice_X1_isChamber
set_option maxRecDepth 20000 in
theorem ggX1_sluice_X1_more : GoodIn wsX1_sluice wsX1_more := goodIn_r _ [12, 13, 14, 15, 16, 7, 17, 2, 18, 19, 20, 21, 22, 23, 24, 25, 26, 27, 38, 39, 40, 41, 42, 43, 44, 45, 46, 47, 48, 49] (by decide +kernel) (by decide +kernel)
set_option maxRecDepth 20000 in
theorem gX1_sluice_X1_more : GoodIn wsX1_sluice (wsV RX1 72 RX1 yX1_more wsX1_more) := goodIn_app (goodIn_of _ (by decide +kernel)) ggX1_sluice_X1_more
set_option maxRecDepth 20000 in
theorem ggX1_sluice_X1_cell : GoodIn wsX1_sluice wsX1_cell := goodIn_r _ [31, 13, 14, 15, 16, 7, 17, 2, 18, 19, 20, 38, 39, 40, 41, 42, 43, 44, 45, 46, 47, 48, 49] (by decide +kernel) (by decide +kernel)
set_option maxRecDepth 20000 in
theorem gX1_sluice_X1_cell : GoodIn wsX1_sluice (wsV RX1 55 RX1 yX1_cell wsX1_cell) := goodIn_app (goodIn_of _ (by decide +kernel)) ggX1_sluice_X1_cell
set_option maxRecDepth 20000 in
theorem ggX1_sluice_X1_answer : GoodIn wsX1_sluice wsX1_answer := goodIn_r _ [35, 2, 36, 37, 38, 39, 40, 41, 42, 43, 44, 45, 46, 47, 48, 49] (by decide +kernel) (by decide +kernel)
set_option maxRecDepth 20000 in
theorem gX1_sluice_X1_answer : GoodIn wsX1_sluice (wsV RX1 51 RX1 yX1_answer wsX1_answer) := goodIn_app (goodIn_of _ (by decide +kernel)) ggX1_sluice_X1_answer
theorem dX1_sluice_0 : decode cX1_sluice 0 = .ok (.aload_n 0, 1) := by decide +kernel
theorem dX1_sluice_1 : decode cX1_sluice 1 = .ok (.iload_n 1, 1) := by decide +kernel
theorem dX1_sluice_2 : decode cX1_sluice 2 = .ok (.invokevirtual 69, 3) := by decide +kernel
theorem dX1_sluice_5 : decode cX1_sluice 5 = .ok (.ifCond .ne 6, 3) := by decide +kernel
theorem dX1_sluice_8 : decode cX1_sluice 8 = .ok (.ldc 50, 2) := by decide +kernel
theorem dX1_sluice_10 : decode cX1_sluice 10 = .ok (.ireturn, 1) := by decide +kernel
theorem dX1_sluice_11 : decode cX1_sluice 11 = .ok (.aload_n 0, 1) := by decide +kernel
theorem dX1_sluice_12 : decode cX1_sluice 12 = .ok (.iconst 0, 1) := by decide +kernel
theorem dX1_sluice_13 : decode cX1_sluice 13 = .ok (.putfield 23, 3) := by decide +kernel
theorem dX1_sluice_16 : decode cX1_sluice 16 = .ok (.aload_n 0, 1) := by decide +kernel
theorem dX1_sluice_17 : decode cX1_sluice 17 = .ok (.iconst 1, 1) := by decide +kernel
theorem dX1_sluice_18 : decode cX1_sluice 18 = .ok (.iload_n 1, 1) := by decide +kernel
theorem dX1_sluice_19 : decode cX1_sluice 19 = .ok (.iload_n 2, 1) := by decide +kernel
theorem dX1_sluice_20 : decode cX1_sluice 20 = .ok (.ineg, 1) := by decide +kernel
theorem dX1_sluice_21 : decode cX1_sluice 21 = .ok (.invokevirtual 72, 3) := by decide +kernel
theorem dX1_sluice_24 : decode cX1_sluice 24 = .ok (.aload_n 0, 1) := by decide +kernel
theorem dX1_sluice_25 : decode cX1_sluice 25 = .ok (.iconst 1, 1) := by decide +kernel
theorem dX1_sluice_26 : decode cX1_sluice 26 = .ok (.iload_n 1, 1) := by decide +kernel
theorem dX1_sluice_27 : decode cX1_sluice 27 = .ok (.invokevirtual 55, 3) := by decide +kernel
theorem dX1_sluice_30 : decode cX1_sluice 30 = .ok (.istore_n 3, 1) := by decide +kernel
theorem dX1_sluice_31 : decode cX1_sluice 31 = .ok (.iload_n 1, 1) := by decide +kernel
theorem dX1_sluice_32 : decode cX1_sluice 32 = .ok (.iconst 1, 1) := by decide +kernel
theorem dX1_sluice_33 : decode cX1_sluice 33 = .ok (.iadd, 1) := by decide +kernel
theorem dX1_sluice_34 : decode cX1_sluice 34 = .ok (.aload_n 0, 1) := by decide +kernel
theorem dX1_sluice_35 : decode cX1_sluice 35 = .ok (.getfield 19, 3) := by decide +kernel
theorem dX1_sluice_38 : decode cX1_sluice 38 = .ok (.if_icmp .ge 12, 3) := by decide +kernel
theorem dX1_sluice_41 : decode cX1_sluice 41 = .ok (.aload_n 0, 1) := by decide +kernel
theorem dX1_sluice_42 : decode cX1_sluice 42 = .ok (.iconst 1, 1) := by decide +kernel
theorem dX1_sluice_43 : decode cX1_sluice 43 = .ok (.iload_n 1, 1) := by decide +kernel
theorem dX1_sluice_44 : decode cX1_sluice 44 = .ok (.iconst 1, 1) := by decide +kernel
theorem dX1_sluice_45 : decode cX1_sluice 45 = .ok (.iadd, 1) := by decide +kernel
theorem dX1_sluice_46 : decode cX1_sluice 46 = .ok (.iload_n 2, 1) := by decide +kernel
theorem dX1_sluice_47 : decode cX1_sluice 47 = .ok (.invokevirtual 72, 3) := by decide +kernel
theorem dX1_sluice_50 : decode cX1_sluice 50 = .ok (.aload_n 0, 1) := by decide +kernel
theorem dX1_sluice_51 : decode cX1_sluice 51 = .ok (.iload_n 3, 1) := by decide +kernel
theorem dX1_sluice_52 : decode cX1_sluice 52 = .ok (.invokevirtual 51, 3) := by decide +kernel
theorem dX1_sluice_55 : decode cX1_sluice 55 = .ok (.ireturn, 1) := by decide +kernel
set_option maxRecDepth 20000 in
theorem ggX1_open_X1_isChamber : GoodIn wsX1_open wsX1_isChamber := goodIn_r _ [8, 3, 38, 39, 40, 41, 42, 43, 44, 45, 46, 47, 48, 49] (by decide +kernel) (by decide +kernel)
set_option maxRecDepth 20000 in
theorem gX1_open_X1_isChamber : GoodIn wsX1_open (wsV RX1 69 RX1 yX1_isChamber wsX1_isChamber) := goodIn_app (goodIn_of _ (by decide +kernel)) ggX1_open_X1_isChamber
set_option maxRecDepth 20000 in
theorem ggX1_open_X1_cell : GoodIn wsX1_open wsX1_cell := goodIn_r _ [12, 13, 14, 15, 16, 7, 17, 2, 18, 19, 20, 38, 39, 40, 41, 42, 43, 44, 45, 46, 47, 48, 49] (by decide +kernel) (by decide +kernel)
set_option maxRecDepth 20000 in
theorem gX1_open_X1_cell : GoodIn wsX1_open (wsV RX1 55 RX1 yX1_cell wsX1_cell) := goodIn_app (goodIn_of _ (by decide +kernel)) ggX1_open_X1_cell
set_option maxRecDepth 20000 in
theorem ggX1_open_X1_put : GoodIn wsX1_open wsX1_put := goodIn_r _ [24, 13, 14, 15, 16, 7, 17, 2, 18, 19, 20, 25, 26, 27, 28, 29, 30, 31, 38, 39, 40, 41, 42, 43, 44, 45, 46, 47, 48, 49] (by decide +kernel) (by decide +kernel)
set_option maxRecDepth 20000 in
theorem gX1_open_X1_put : GoodIn wsX1_open (wsV RX1 61 RX1 yX1_put wsX1_put) := goodIn_app (goodIn_of _ (by decide +kernel)) ggX1_open_X1_put
set_option maxRecDepth 20000 in
theorem ggX1_open_X1_answer : GoodIn wsX1_open wsX1_answer := goodIn_r _ [35, 2, 36, 37, 38, 39, 40, 41, 42, 43, 44, 45, 46, 47, 48, 49] (by decide +kernel) (by decide +kernel)
set_option maxRecDepth 20000 in
theorem gX1_open_X1_answer : GoodIn wsX1_open (wsV RX1 51 RX1 yX1_answer wsX1_answer) := goodIn_app (goodIn_of _ (by decide +kernel)) ggX1_open_X1_answer
theorem dX1_open_0 : decode cX1_open 0 = .ok (.aload_n 0, 1) := by decide +kernel
theorem dX1_open_1 : decode cX1_open 1 = .ok (.iload_n 1, 1) := by decide +kernel
theorem dX1_open_2 : decode cX1_open 2 = .ok (.invokevirtual 69, 3) := by decide +kernel
theorem dX1_open_5 : decode cX1_open 5 = .ok (.ifCond .ne 6, 3) := by decide +kernel
theorem dX1_open_8 : decode cX1_open 8 = .ok (.ldc 50, 2) := by decide +kernel
theorem dX1_open_10 : decode cX1_open 10 = .ok (.ireturn, 1) := by decide +kernel
theorem dX1_open_11 : decode cX1_open 11 = .ok (.aload_n 0, 1) := by decide +kernel
theorem dX1_open_12 : decode cX1_open 12 = .ok (.iconst 0, 1) := by decide +kernel
theorem dX1_open_13 : decode cX1_open 13 = .ok (.putfield 23, 3) := by decide +kernel
theorem dX1_open_16 : decode cX1_open 16 = .ok (.aload_n 0, 1) := by decide +kernel
theorem dX1_open_17 : decode cX1_open 17 = .ok (.iconst 1, 1) := by decide +kernel
theorem dX1_open_18 : decode cX1_open 18 = .ok (.iload_n 1, 1) := by decide +kernel
theorem dX1_open_19 : decode cX1_open 19 = .ok (.invokevirtual 55, 3) := by decide +kernel
theorem dX1_open_22 : decode cX1_open 22 = .ok (.istore_n 2, 1) := by decide +kernel
theorem dX1_open_23 : decode cX1_open 23 = .ok (.iload_n 1, 1) := by decide +kernel
theorem dX1_open_24 : decode cX1_open 24 = .ok (.iconst 1, 1) := by decide +kernel
theorem dX1_open_25 : decode cX1_open 25 = .ok (.iadd, 1) := by decide +kernel
theorem dX1_open_26 : decode cX1_open 26 = .ok (.aload_n 0, 1) := by decide +kernel
theorem dX1_open_27 : decode cX1_open 27 = .ok (.getfield 19, 3) := by decide +kernel
theorem dX1_open_30 : decode cX1_open 30 = .ok (.if_icmp .ge 14, 3) := by decide +kernel
theorem dX1_open_33 : decode cX1_open 33 = .ok (.aload_n 0, 1) := by decide +kernel
theorem dX1_open_34 : decode cX1_open 34 = .ok (.iconst 1, 1) := by decide +kernel
theorem dX1_open_35 : decode cX1_open 35 = .ok (.iload_n 1, 1) := by decide +kernel
theorem dX1_open_36 : decode cX1_open 36 = .ok (.iconst 1, 1) := by decide +kernel
theorem dX1_open_37 : decode cX1_open 37 = .ok (.iadd, 1) := by decide +kernel
theorem dX1_open_38 : decode cX1_open 38 = .ok (.invokevirtual 55, 3) := by decide +kernel
theorem dX1_open_41 : decode cX1_open 41 = .ok (.goto 4, 3) := by decide +kernel
theorem dX1_open_44 : decode cX1_open 44 = .ok (.iconst 0, 1) := by decide +kernel
theorem dX1_open_45 : decode cX1_open 45 = .ok (.istore_n 3, 1) := by decide +kernel
theorem dX1_open_46 : decode cX1_open 46 = .ok (.aload_n 0, 1) := by decide +kernel
theorem dX1_open_47 : decode cX1_open 47 = .ok (.getfield 23, 3) := by decide +kernel
theorem dX1_open_50 : decode cX1_open 50 = .ok (.ifCond .ne 11, 3) := by decide +kernel
theorem dX1_open_53 : decode cX1_open 53 = .ok (.iload_n 2, 1) := by decide +kernel
theorem dX1_open_54 : decode cX1_open 54 = .ok (.iload_n 3, 1) := by decide +kernel
theorem dX1_open_55 : decode cX1_open 55 = .ok (.if_icmp .eq 6, 3) := by decide +kernel
theorem dX1_open_58 : decode cX1_open 58 = .ok (.bipush (-2), 2) := by decide +kernel
theorem dX1_open_60 : decode cX1_open 60 = .ok (.ireturn, 1) := by decide +kernel
theorem dX1_open_61 : decode cX1_open 61 = .ok (.aload_n 0, 1) := by decide +kernel
theorem dX1_open_62 : decode cX1_open 62 = .ok (.iconst 3, 1) := by decide +kernel
theorem dX1_open_63 : decode cX1_open 63 = .ok (.iload_n 1, 1) := by decide +kernel
theorem dX1_open_64 : decode cX1_open 64 = .ok (.iconst 1, 1) := by decide +kernel
theorem dX1_open_65 : decode cX1_open 65 = .ok (.invokevirtual 61, 3) := by decide +kernel
theorem dX1_open_68 : decode cX1_open 68 = .ok (.aload_n 0, 1) := by decide +kernel
theorem dX1_open_69 : decode cX1_open 69 = .ok (.iconst 0, 1) := by decide +kernel
theorem dX1_open_70 : decode cX1_open 70 = .ok (.invokevirtual 51, 3) := by decide +kernel
theorem dX1_open_73 : decode cX1_open 73 = .ok (.ireturn, 1) := by decide +kernel
set_option maxRecDepth 20000 in
theorem ggX1_shut_X1_isChamber : GoodIn wsX1_shut wsX1_isChamber := goodIn_r _ [7, 8, 38, 39, 40, 41, 42, 43, 44, 45, 46, 47, 48, 49] (by decide +kernel) (by decide +kernel)
set_option maxRecDepth 20000 in
theorem gX1_shut_X1_isChamber : GoodIn wsX1_shut (wsV RX1 69 RX1 yX1_isChamber wsX1_isChamber) := goodIn_app (goodIn_of _ (by decide +kernel)) ggX1_shut_X1_isChamber
set_option maxRecDepth 20000 in
theorem ggX1_shut_X1_cell : GoodIn wsX1_shut wsX1_cell := goodIn_r _ [12, 13, 14, 15, 16, 6, 17, 2, 18, 19, 20, 38, 39, 40, 41, 42, 43, 44, 45, 46, 47, 48, 49] (by decide +kernel) (by decide +kernel)
set_option maxRecDepth 20000 in
theorem gX1_shut_X1_cell : GoodIn wsX1_shut (wsV RX1 55 RX1 yX1_cell wsX1_cell) := goodIn_app (goodIn_of _ (by decide +kernel)) ggX1_shut_X1_cell
set_option maxRecDepth 20000 in
theorem ggX1_shut_X1_put : GoodIn wsX1_shut wsX1_put := goodIn_r _ [24, 13, 14, 15, 16, 6, 17, 2, 18, 19, 20, 25, 26, 27, 28, 29, 30, 31, 38, 39, 40, 41, 42, 43, 44, 45, 46, 47, 48, 49] (by decide +kernel) (by decide +kernel)
set_option maxRecDepth 20000 in
theorem gX1_shut_X1_put : GoodIn wsX1_shut (wsV RX1 61 RX1 yX1_put wsX1_put) := goodIn_app (goodIn_of _ (by decide +kernel)) ggX1_shut_X1_put
set_option maxRecDepth 20000 in
theorem ggX1_shut_X1_answer : GoodIn wsX1_shut wsX1_answer := goodIn_r _ [35, 2, 36, 37, 38, 39, 40, 41, 42, 43, 44, 45, 46, 47, 48, 49] (by decide +kernel) (by decide +kernel)
set_option maxRecDepth 20000 in
theorem gX1_shut_X1_answer : GoodIn wsX1_shut (wsV RX1 51 RX1 yX1_answer wsX1_answer) := goodIn_app (goodIn_of _ (by decide +kernel)) ggX1_shut_X1_answer
theorem dX1_shut_0 : decode cX1_shut 0 = .ok (.aload_n 0, 1) := by decide +kernel
theorem dX1_shut_1 : decode cX1_shut 1 = .ok (.iload_n 1, 1) := by decide +kernel
theorem dX1_shut_2 : decode cX1_shut 2 = .ok (.invokevirtual 69, 3) := by decide +kernel
theorem dX1_shut_5 : decode cX1_shut 5 = .ok (.ifCond .ne 6, 3) := by decide +kernel
theorem dX1_shut_8 : decode cX1_shut 8 = .ok (.ldc 50, 2) := by decide +kernel
theorem dX1_shut_10 : decode cX1_shut 10 = .ok (.ireturn, 1) := by decide +kernel
theorem dX1_shut_11 : decode cX1_shut 11 = .ok (.aload_n 0, 1) := by decide +kernel
theorem dX1_shut_12 : decode cX1_shut 12 = .ok (.iconst 0, 1) := by decide +kernel
theorem dX1_shut_13 : decode cX1_shut 13 = .ok (.putfield 23, 3) := by decide +kernel
theorem dX1_shut_16 : decode cX1_shut 16 = .ok (.aload_n 0, 1) := by decide +kernel
theorem dX1_shut_17 : decode cX1_shut 17 = .ok (.iconst 3, 1) := by decide +kernel
theorem dX1_shut_18 : decode cX1_shut 18 = .ok (.iload_n 1, 1) := by decide +kernel
theorem dX1_shut_19 : decode cX1_shut 19 = .ok (.invokevirtual 55, 3) := by decide +kernel
theorem dX1_shut_22 : decode cX1_shut 22 = .ok (.istore_n 2, 1) := by decide +kernel
theorem dX1_shut_23 : decode cX1_shut 23 = .ok (.aload_n 0, 1) := by decide +kernel
theorem dX1_shut_24 : decode cX1_shut 24 = .ok (.iconst 3, 1) := by decide +kernel
theorem dX1_shut_25 : decode cX1_shut 25 = .ok (.iload_n 1, 1) := by decide +kernel
theorem dX1_shut_26 : decode cX1_shut 26 = .ok (.iconst 0, 1) := by decide +kernel
theorem dX1_shut_27 : decode cX1_shut 27 = .ok (.invokevirtual 61, 3) := by decide +kernel
theorem dX1_shut_30 : decode cX1_shut 30 = .ok (.aload_n 0, 1) := by decide +kernel
theorem dX1_shut_31 : decode cX1_shut 31 = .ok (.iload_n 2, 1) := by decide +kernel
theorem dX1_shut_32 : decode cX1_shut 32 = .ok (.invokevirtual 51, 3) := by decide +kernel
theorem dX1_shut_35 : decode cX1_shut 35 = .ok (.ireturn, 1) := by decide +kernel
set_option maxRecDepth 20000 in
theorem ggX1_enter_X1_cell : GoodIn wsX1_enter wsX1_cell := goodIn_r _ [8, 9, 10, 11, 12, 7, 13, 3, 14, 15, 16, 37, 38, 39, 40, 41, 42, 43, 44, 45, 46, 47, 48] (by decide +kernel) (by decide +kernel)
set_option maxRecDepth 20000 in
theorem gX1_enter_X1_cell : GoodIn wsX1_enter (wsV RX1 55 RX1 yX1_cell wsX1_cell) := goodIn_app (goodIn_of _ (by decide +kernel)) ggX1_enter_X1_cell
set_option maxRecDepth 20000 in
theorem ggX1_enter_X1_put : GoodIn wsX1_enter wsX1_put := goodIn_r _ [20, 9, 10, 11, 12, 7, 13, 3, 14, 15, 16, 21, 22, 23, 1, 24, 25, 26, 37, 38, 39, 40, 41, 42, 43, 44, 45, 46, 47, 48] (by decide +kernel) (by decide +kernel)
set_option maxRecDepth 20000 in
theorem gX1_enter_X1_put : GoodIn wsX1_enter (wsV RX1 61 RX1 yX1_put wsX1_put) := goodIn_app (goodIn_of _ (by decide +kernel)) ggX1_enter_X1_put
set_option maxRecDepth 20000 in
theorem ggX1_enter_X1_more : GoodIn wsX1_enter wsX1_more := goodIn_r _ [30, 9, 10, 11, 12, 7, 13, 3, 14, 15, 16, 21, 22, 23, 1, 24, 25, 26, 37, 38, 39, 40, 41, 42, 43, 44, 45, 46, 47, 48] (by decide +kernel) (by decide +kernel)
set_option maxRecDepth 20000 in
theorem gX1_enter_X1_more : GoodIn wsX1_enter (wsV RX1 72 RX1 yX1_more wsX1_more) := goodIn_app (goodIn_of _ (by decide +kernel)) ggX1_enter_X1_more
set_option maxRecDepth 20000 in
theorem ggX1_enter_X1_answer : GoodIn wsX1_enter wsX1_answer := goodIn_r _ [34, 3, 35, 36, 37, 38, 39, 40, 41, 42, 43, 44, 45, 46, 47, 48] (by decide +kernel) (by decide +kernel)
set_option maxRecDepth 20000 in
theorem gX1_enter_X1_answer : GoodIn wsX1_enter (wsV RX1 51 RX1 yX1_answer wsX1_answer) := goodIn_app (goodIn_of _ (by decide +kernel)) ggX1_enter_X1_answer
theorem dX1_enter_0 : decode cX1_enter 0 = .ok (.iload_n 1, 1) := by decide +kernel
theorem dX1_enter_1 : decode cX1_enter 1 = .ok (.ldc 32, 2) := by decide +kernel
theorem dX1_enter_3 : decode cX1_enter 3 = .ok (.iand, 1) := by decide +kernel
theorem dX1_enter_4 : decode cX1_enter 4 = .ok (.ifCond .eq 14, 3) := by decide +kernel
theorem dX1_enter_7 : decode cX1_enter 7 = .ok (.iload_n 2, 1) := by decide +kernel
theorem dX1_enter_8 : decode cX1_enter 8 = .ok (.ifCond .lt 10, 3) := by decide +kernel
theorem dX1_enter_11 : decode cX1_enter 11 = .ok (.iload_n 2, 1) := by decide +kernel
theorem dX1_enter_12 : decode cX1_enter 12 = .ok (.sipush 16000, 3) := by decide +kernel
theorem dX1_enter_15 : decode cX1_enter 15 = .ok (.if_icmp .le 6, 3) := by decide +kernel
theorem dX1_enter_18 : decode cX1_enter 18 = .ok (.ldc 50, 2) := by decide +kernel
theorem dX1_enter_20 : decode cX1_enter 20 = .ok (.ireturn, 1) := by decide +kernel
theorem dX1_enter_21 : decode cX1_enter 21 = .ok (.aload_n 0, 1) := by decide +kernel
theorem dX1_enter_22 : decode cX1_enter 22 = .ok (.iconst 0, 1) := by decide +kernel
theorem dX1_enter_23 : decode cX1_enter 23 = .ok (.putfield 23, 3) := by decide +kernel
theorem dX1_enter_26 : decode cX1_enter 26 = .ok (.aload_n 0, 1) := by decide +kernel
theorem dX1_enter_27 : decode cX1_enter 27 = .ok (.iconst 0, 1) := by decide +kernel
theorem dX1_enter_28 : decode cX1_enter 28 = .ok (.iconst 0, 1) := by decide +kernel
theorem dX1_enter_29 : decode cX1_enter 29 = .ok (.invokevirtual 55, 3) := by decide +kernel
theorem dX1_enter_32 : decode cX1_enter 32 = .ok (.istore_n 3, 1) := by decide +kernel
theorem dX1_enter_33 : decode cX1_enter 33 = .ok (.aload_n 0, 1) := by decide +kernel
theorem dX1_enter_34 : decode cX1_enter 34 = .ok (.getfield 23, 3) := by decide +kernel
theorem dX1_enter_37 : decode cX1_enter 37 = .ok (.ifCond .ne 10, 3) := by decide +kernel
theorem dX1_enter_40 : decode cX1_enter 40 = .ok (.iload_n 3, 1) := by decide +kernel
theorem dX1_enter_41 : decode cX1_enter 41 = .ok (.ifCond .eq 6, 3) := by decide +kernel
theorem dX1_enter_44 : decode cX1_enter 44 = .ok (.bipush (-2), 2) := by decide +kernel
theorem dX1_enter_46 : decode cX1_enter 46 = .ok (.ireturn, 1) := by decide +kernel
theorem dX1_enter_47 : decode cX1_enter 47 = .ok (.aload_n 0, 1) := by decide +kernel
theorem dX1_enter_48 : decode cX1_enter 48 = .ok (.iconst 1, 1) := by decide +kernel
theorem dX1_enter_49 : decode cX1_enter 49 = .ok (.iconst 0, 1) := by decide +kernel
theorem dX1_enter_50 : decode cX1_enter 50 = .ok (.invokevirtual 55, 3) := by decide +kernel
theorem dX1_enter_53 : decode cX1_enter 53 = .ok (.istore 4, 2) := by decide +kernel
theorem dX1_enter_55 : decode cX1_enter 55 = .ok (.aload_n 0, 1) := by decide +kernel
theorem dX1_enter_56 : decode cX1_enter 56 = .ok (.getfield 23, 3) := by decide +kernel
theorem dX1_enter_59 : decode cX1_enter 59 = .ok (.ifCond .ne 15, 3) := by decide +kernel
theorem dX1_enter_62 : decode cX1_enter 62 = .ok (.iload_n 2, 1) := by decide +kernel
theorem dX1_enter_63 : decode cX1_enter 63 = .ok (.bipush 8, 2) := by decide +kernel
theorem dX1_enter_65 : decode cX1_enter 65 = .ok (.iload 4, 2) := by decide +kernel
theorem dX1_enter_67 : decode cX1_enter 67 = .ok (.imul, 1) := by decide +kernel
theorem dX1_enter_68 : decode cX1_enter 68 = .ok (.if_icmp .le 6, 3) := by decide +kernel
theorem dX1_enter_71 : decode cX1_enter 71 = .ok (.bipush (-3), 2) := by decide +kernel
theorem dX1_enter_73 : decode cX1_enter 73 = .ok (.ireturn, 1) := by decide +kernel
theorem dX1_enter_74 : decode cX1_enter 74 = .ok (.aload_n 0, 1) := by decide +kernel
theorem dX1_enter_75 : decode cX1_enter 75 = .ok (.iconst 2, 1) := by decide +kernel
theorem dX1_enter_76 : decode cX1_enter 76 = .ok (.iconst 0, 1) := by decide +kernel
theorem dX1_enter_77 : decode cX1_enter 77 = .ok (.iload_n 2, 1) := by decide +kernel
theorem dX1_enter_78 : decode cX1_enter 78 = .ok (.invokevirtual 61, 3) := by decide +kernel
theorem dX1_enter_81 : decode cX1_enter 81 = .ok (.aload_n 0, 1) := by decide +kernel
theorem dX1_enter_82 : decode cX1_enter 82 = .ok (.iconst 0, 1) := by decide +kernel
theorem dX1_enter_83 : decode cX1_enter 83 = .ok (.iconst 0, 1) := by decide +kernel
theorem dX1_enter_84 : decode cX1_enter 84 = .ok (.iload_n 1, 1) := by decide +kernel
theorem dX1_enter_85 : decode cX1_enter 85 = .ok (.invokevirtual 61, 3) := by decide +kernel
theorem dX1_enter_88 : decode cX1_enter 88 = .ok (.aload_n 0, 1) := by decide +kernel
theorem dX1_enter_89 : decode cX1_enter 89 = .ok (.iconst 4, 1) := by decide +kernel
theorem dX1_enter_90 : decode cX1_enter 90 = .ok (.iconst 0, 1) := by decide +kernel
theorem dX1_enter_91 : decode cX1_enter 91 = .ok (.iconst 1, 1) := by decide +kernel
theorem dX1_enter_92 : decode cX1_enter 92 = .ok (.invokevirtual 72, 3) := by decide +kernel
theorem dX1_enter_95 : decode cX1_enter 95 = .ok (.aload_n 0, 1) := by decide +kernel
theorem dX1_enter_96 : decode cX1_enter 96 = .ok (.iconst 4, 1) := by decide +kernel
theorem dX1_enter_97 : decode cX1_enter 97 = .ok (.iconst 0, 1) := by decide +kernel
theorem dX1_enter_98 : decode cX1_enter 98 = .ok (.invokevirtual 55, 3) := by decide +kernel
theorem dX1_enter_101 : decode cX1_enter 101 = .ok (.istore 5, 2) := by decide +kernel
theorem dX1_enter_103 : decode cX1_enter 103 = .ok (.aload_n 0, 1) := by decide +kernel
theorem dX1_enter_104 : decode cX1_enter 104 = .ok (.iload 5, 2) := by decide +kernel
theorem dX1_enter_106 : decode cX1_enter 106 = .ok (.invokevirtual 51, 3) := by decide +kernel
theorem dX1_enter_109 : decode cX1_enter 109 = .ok (.ireturn, 1) := by decide +kernel
set_option maxRecDepth 20000 in
theorem ggX1_moved_X1_cell : GoodIn wsX1_moved wsX1_cell := goodIn_r _ [5, 6, 7, 8, 9, 4, 10, 11, 12, 13, 14, 30, 31, 32, 33, 34, 35, 36, 37, 38, 39, 40, 41] (by decide +kernel) (by decide +kernel)
set_option maxRecDepth 20000 in
theorem gX1_moved_X1_cell : GoodIn wsX1_moved (wsV RX1 55 RX1 yX1_cell wsX1_cell) := goodIn_app (goodIn_of _ (by decide +kernel)) ggX1_moved_X1_cell
set_option maxRecDepth 20000 in
theorem ggX1_moved_X1_put : GoodIn wsX1_moved wsX1_put := goodIn_r _ [18, 6, 7, 8, 9, 4, 10, 11, 12, 13, 14, 19, 20, 21, 22, 23, 24, 25, 30, 31, 32, 33, 34, 35, 36, 37, 38, 39, 40, 41] (by decide +kernel) (by decide +kernel)
set_option maxRecDepth 20000 in
theorem gX1_moved_X1_put : GoodIn wsX1_moved (wsV RX1 61 RX1 yX1_put wsX1_put) := goodIn_app (goodIn_of _ (by decide +kernel)) ggX1_moved_X1_put
set_option maxRecDepth 20000 in
theorem ggX1_moved_X1_more : GoodIn wsX1_moved wsX1_more := goodIn_r _ [29, 6, 7, 8, 9, 4, 10, 11, 12, 13, 14, 19, 20, 21, 22, 23, 24, 25, 30, 31, 32, 33, 34, 35, 36, 37, 38, 39, 40, 41] (by decide +kernel) (by decide +kernel)
set_option maxRecDepth 20000 in
theorem gX1_moved_X1_more : GoodIn wsX1_moved (wsV RX1 72 RX1 yX1_more wsX1_more) := goodIn_app (goodIn_of _ (by decide +kernel)) ggX1_moved_X1_more
theorem dX1_moved_0 : decode cX1_moved 0 = .ok (.aload_n 0, 1) := by decide +kernel
theorem dX1_moved_1 : decode cX1_moved 1 = .ok (.iconst 2, 1) := by decide +kernel
theorem dX1_moved_2 : decode cX1_moved 2 = .ok (.iload_n 1, 1) := by decide +kernel
theorem dX1_moved_3 : decode cX1_moved 3 = .ok (.invokevirtual 55, 3) := by decide +kernel
theorem dX1_moved_6 : decode cX1_moved 6 = .ok (.istore_n 3, 1) := by decide +kernel
theorem dX1_moved_7 : decode cX1_moved 7 = .ok (.aload_n 0, 1) := by decide +kernel
theorem dX1_moved_8 : decode cX1_moved 8 = .ok (.iconst 2, 1) := by decide +kernel
theorem dX1_moved_9 : decode cX1_moved 9 = .ok (.iload_n 1, 1) := by decide +kernel
theorem dX1_moved_10 : decode cX1_moved 10 = .ok (.iconst 1, 1) := by decide +kernel
theorem dX1_moved_11 : decode cX1_moved 11 = .ok (.iadd, 1) := by decide +kernel
theorem dX1_moved_12 : decode cX1_moved 12 = .ok (.iload_n 3, 1) := by decide +kernel
theorem dX1_moved_13 : decode cX1_moved 13 = .ok (.invokevirtual 61, 3) := by decide +kernel
theorem dX1_moved_16 : decode cX1_moved 16 = .ok (.aload_n 0, 1) := by decide +kernel
theorem dX1_moved_17 : decode cX1_moved 17 = .ok (.iconst 0, 1) := by decide +kernel
theorem dX1_moved_18 : decode cX1_moved 18 = .ok (.iload_n 1, 1) := by decide +kernel
theorem dX1_moved_19 : decode cX1_moved 19 = .ok (.iconst 1, 1) := by decide +kernel
theorem dX1_moved_20 : decode cX1_moved 20 = .ok (.iadd, 1) := by decide +kernel
theorem dX1_moved_21 : decode cX1_moved 21 = .ok (.iload_n 2, 1) := by decide +kernel
theorem dX1_moved_22 : decode cX1_moved 22 = .ok (.invokevirtual 61, 3) := by decide +kernel
theorem dX1_moved_25 : decode cX1_moved 25 = .ok (.aload_n 0, 1) := by decide +kernel
theorem dX1_moved_26 : decode cX1_moved 26 = .ok (.iconst 4, 1) := by decide +kernel
theorem dX1_moved_27 : decode cX1_moved 27 = .ok (.iload_n 1, 1) := by decide +kernel
theorem dX1_moved_28 : decode cX1_moved 28 = .ok (.iconst 1, 1) := by decide +kernel
theorem dX1_moved_29 : decode cX1_moved 29 = .ok (.iadd, 1) := by decide +kernel
theorem dX1_moved_30 : decode cX1_moved 30 = .ok (.iconst 1, 1) := by decide +kernel
theorem dX1_moved_31 : decode cX1_moved 31 = .ok (.invokevirtual 72, 3) := by decide +kernel
theorem dX1_moved_34 : decode cX1_moved 34 = .ok (.iload_n 3, 1) := by decide +kernel
theorem dX1_moved_35 : decode cX1_moved 35 = .ok (.ireturn, 1) := by decide +kernel
set_option maxRecDepth 20000 in
theorem ggX1_pass_X1_isChamber : GoodIn wsX1_pass wsX1_isChamber := goodIn_r _ [10, 3, 48, 49, 50, 51, 52, 53, 54, 55, 56, 57, 58, 59] (by decide +kernel) (by decide +kernel)
set_option maxRecDepth 20000 in
theorem gX1_pass_X1_isChamber : GoodIn wsX1_pass (wsV RX1 69 RX1 yX1_isChamber wsX1_isChamber) := goodIn_app (goodIn_of _ (by decide +kernel)) ggX1_pass_X1_isChamber
set_option maxRecDepth 20000 in
theorem ggX1_pass_X1_cell : GoodIn wsX1_pass wsX1_cell := goodIn_r _ [14, 15, 16, 17, 18, 9, 19, 2, 20, 21, 22, 48, 49, 50, 51, 52, 53, 54, 55, 56, 57, 58, 59] (by decide +kernel) (by decide +kernel)
set_option maxRecDepth 20000 in
theorem gX1_pass_X1_cell : GoodIn wsX1_pass (wsV RX1 55 RX1 yX1_cell wsX1_cell) := goodIn_app (goodIn_of _ (by decide +kernel)) ggX1_pass_X1_cell
set_option maxRecDepth 20000 in
theorem ggX1_pass_X1_moved : GoodIn wsX1_pass wsX1_moved := goodIn_r _ [26, 11, 12, 13, 9, 14, 15, 16, 17, 18, 19, 2, 20, 21, 22, 27, 28, 29, 30, 31, 32, 33, 34, 35, 36, 37, 38, 39, 40, 41, 48, 49, 50, 51, 52, 53, 54, 55, 56, 57, 58, 59] (by decide +kernel) (by decide +kernel)
set_option maxRecDepth 20000 in
theorem gX1_pass_X1_moved : GoodIn wsX1_pass (wsV RX1 81 RX1 yX1_moved wsX1_moved) := goodIn_app (goodIn_of _ (by decide +kernel)) ggX1_pass_X1_moved
set_option maxRecDepth 20000 in
theorem ggX1_pass_X1_put : GoodIn wsX1_pass wsX1_put := goodIn_r _ [30, 15, 16, 17, 18, 9, 19, 2, 20, 21, 22, 31, 32, 33, 34, 35, 36, 37, 48, 49, 50, 51, 52, 53, 54, 55, 56, 57, 58, 59] (by decide +kernel) (by decide +kernel)
set_option maxRecDepth 20000 in
theorem gX1_pass_X1_put : GoodIn wsX1_pass (wsV RX1 61 RX1 yX1_put wsX1_put) := goodIn_app (goodIn_of _ (by decide +kernel)) ggX1_pass_X1_put
set_option maxRecDepth 20000 in
theorem ggX1_pass_X1_answer : GoodIn wsX1_pass wsX1_answer := goodIn_r _ [45, 2, 46, 47, 48, 49, 50, 51, 52, 53, 54, 55, 56, 57, 58, 59] (by decide +kernel) (by decide +kernel)
set_option maxRecDepth 20000 in
theorem gX1_pass_X1_answer : GoodIn wsX1_pass (wsV RX1 51 RX1 yX1_answer wsX1_answer) := goodIn_app (goodIn_of _ (by decide +kernel)) ggX1_pass_X1_answer
theorem dX1_pass_0 : decode cX1_pass 0 = .ok (.aload_n 0, 1) := by decide +kernel
theorem dX1_pass_1 : decode cX1_pass 1 = .ok (.iload_n 1, 1) := by decide +kernel
theorem dX1_pass_2 : decode cX1_pass 2 = .ok (.invokevirtual 69, 3) := by decide +kernel
theorem dX1_pass_5 : decode cX1_pass 5 = .ok (.ifCond .ne 6, 3) := by decide +kernel
theorem dX1_pass_8 : decode cX1_pass 8 = .ok (.ldc 50, 2) := by decide +kernel
theorem dX1_pass_10 : decode cX1_pass 10 = .ok (.ireturn, 1) := by decide +kernel
theorem dX1_pass_11 : decode cX1_pass 11 = .ok (.aload_n 0, 1) := by decide +kernel
theorem dX1_pass_12 : decode cX1_pass 12 = .ok (.iconst 0, 1) := by decide +kernel
theorem dX1_pass_13 : decode cX1_pass 13 = .ok (.putfield 23, 3) := by decide +kernel
theorem dX1_pass_16 : decode cX1_pass 16 = .ok (.aload_n 0, 1) := by decide +kernel
theorem dX1_pass_17 : decode cX1_pass 17 = .ok (.iconst 3, 1) := by decide +kernel
theorem dX1_pass_18 : decode cX1_pass 18 = .ok (.iload_n 1, 1) := by decide +kernel
theorem dX1_pass_19 : decode cX1_pass 19 = .ok (.invokevirtual 55, 3) := by decide +kernel
theorem dX1_pass_22 : decode cX1_pass 22 = .ok (.istore_n 2, 1) := by decide +kernel
theorem dX1_pass_23 : decode cX1_pass 23 = .ok (.aload_n 0, 1) := by decide +kernel
theorem dX1_pass_24 : decode cX1_pass 24 = .ok (.getfield 23, 3) := by decide +kernel
theorem dX1_pass_27 : decode cX1_pass 27 = .ok (.ifCond .ne 10, 3) := by decide +kernel
theorem dX1_pass_30 : decode cX1_pass 30 = .ok (.iload_n 2, 1) := by decide +kernel
theorem dX1_pass_31 : decode cX1_pass 31 = .ok (.ifCond .ne 6, 3) := by decide +kernel
theorem dX1_pass_34 : decode cX1_pass 34 = .ok (.bipush (-2), 2) := by decide +kernel
theorem dX1_pass_36 : decode cX1_pass 36 = .ok (.ireturn, 1) := by decide +kernel
theorem dX1_pass_37 : decode cX1_pass 37 = .ok (.aload_n 0, 1) := by decide +kernel
theorem dX1_pass_38 : decode cX1_pass 38 = .ok (.iconst 0, 1) := by decide +kernel
theorem dX1_pass_39 : decode cX1_pass 39 = .ok (.iload_n 1, 1) := by decide +kernel
theorem dX1_pass_40 : decode cX1_pass 40 = .ok (.invokevirtual 55, 3) := by decide +kernel
theorem dX1_pass_43 : decode cX1_pass 43 = .ok (.istore_n 3, 1) := by decide +kernel
theorem dX1_pass_44 : decode cX1_pass 44 = .ok (.aload_n 0, 1) := by decide +kernel
theorem dX1_pass_45 : decode cX1_pass 45 = .ok (.getfield 23, 3) := by decide +kernel
theorem dX1_pass_48 : decode cX1_pass 48 = .ok (.ifCond .ne 10, 3) := by decide +kernel
theorem dX1_pass_51 : decode cX1_pass 51 = .ok (.iload_n 3, 1) := by decide +kernel
theorem dX1_pass_52 : decode cX1_pass 52 = .ok (.ifCond .ne 6, 3) := by decide +kernel
theorem dX1_pass_55 : decode cX1_pass 55 = .ok (.bipush (-3), 2) := by decide +kernel
theorem dX1_pass_57 : decode cX1_pass 57 = .ok (.ireturn, 1) := by decide +kernel
theorem dX1_pass_58 : decode cX1_pass 58 = .ok (.iconst 0, 1) := by decide +kernel
theorem dX1_pass_59 : decode cX1_pass 59 = .ok (.istore 4, 2) := by decide +kernel
theorem dX1_pass_61 : decode cX1_pass 61 = .ok (.iload_n 1, 1) := by decide +kernel
theorem dX1_pass_62 : decode cX1_pass 62 = .ok (.iconst 1, 1) := by decide +kernel
theorem dX1_pass_63 : decode cX1_pass 63 = .ok (.iadd, 1) := by decide +kernel
theorem dX1_pass_64 : decode cX1_pass 64 = .ok (.aload_n 0, 1) := by decide +kernel
theorem dX1_pass_65 : decode cX1_pass 65 = .ok (.getfield 19, 3) := by decide +kernel
theorem dX1_pass_68 : decode cX1_pass 68 = .ok (.if_icmp .ne 42, 3) := by decide +kernel
theorem dX1_pass_71 : decode cX1_pass 71 = .ok (.aload_n 0, 1) := by decide +kernel
theorem dX1_pass_72 : decode cX1_pass 72 = .ok (.iconst 2, 1) := by decide +kernel
theorem dX1_pass_73 : decode cX1_pass 73 = .ok (.iload_n 1, 1) := by decide +kernel
theorem dX1_pass_74 : decode cX1_pass 74 = .ok (.invokevirtual 55, 3) := by decide +kernel
theorem dX1_pass_77 : decode cX1_pass 77 = .ok (.istore 4, 2) := by decide +kernel
theorem dX1_pass_79 : decode cX1_pass 79 = .ok (.aload_n 0, 1) := by decide +kernel
theorem dX1_pass_80 : decode cX1_pass 80 = .ok (.getfield 23, 3) := by decide +kernel
theorem dX1_pass_83 : decode cX1_pass 83 = .ok (.ifCond .ne 60, 3) := by decide +kernel
theorem dX1_pass_86 : decode cX1_pass 86 = .ok (.aload_n 0, 1) := by decide +kernel
theorem dX1_pass_87 : decode cX1_pass 87 = .ok (.dup, 1) := by decide +kernel
theorem dX1_pass_88 : decode cX1_pass 88 = .ok (.getfield 75, 3) := by decide +kernel
theorem dX1_pass_91 : decode cX1_pass 91 = .ok (.iconst 1, 1) := by decide +kernel
theorem dX1_pass_92 : decode cX1_pass 92 = .ok (.iadd, 1) := by decide +kernel
theorem dX1_pass_93 : decode cX1_pass 93 = .ok (.putfield 75, 3) := by decide +kernel
theorem dX1_pass_96 : decode cX1_pass 96 = .ok (.aload_n 0, 1) := by decide +kernel
end
section
theorem dX1_pass_97 : decode cX1_pass 97 = .ok (.aload_n 0, 1) := by decide +kernel
theorem dX1_pass_98 : decode cX1_pass 98 = .ok (.getfield 78, 3) := by decide +kernel
theorem dX1_pass_101 : decode cX1_pass 101 = .ok (.iload 4, 2) := by decide +kernel
theorem dX1_pass_103 : decode cX1_pass 103 = .ok (.iadd, 1) := by decide +kernel
theorem dX1_pass_104 : decode cX1_pass 104 = .ok (.putfield 78, 3) := by decide +kernel
theorem dX1_pass_107 : decode cX1_pass 107 = .ok (.goto 36, 3) := by decide +kernel
theorem dX1_pass_110 : decode cX1_pass 110 = .ok (.aload_n 0, 1) := by decide +kernel
theorem dX1_pass_111 : decode cX1_pass 111 = .ok (.iconst 0, 1) := by decide +kernel
theorem dX1_pass_112 : decode cX1_pass 112 = .ok (.iload_n 1, 1) := by decide +kernel
theorem dX1_pass_113 : decode cX1_pass 113 = .ok (.iconst 1, 1) := by decide +kernel
theorem dX1_pass_114 : decode cX1_pass 114 = .ok (.iadd, 1) := by decide +kernel
theorem dX1_pass_115 : decode cX1_pass 115 = .ok (.invokevirtual 55, 3) := by decide +kernel
theorem dX1_pass_118 : decode cX1_pass 118 = .ok (.istore 5, 2) := by decide +kernel
theorem dX1_pass_120 : decode cX1_pass 120 = .ok (.aload_n 0, 1) := by decide +kernel
theorem dX1_pass_121 : decode cX1_pass 121 = .ok (.getfield 23, 3) := by decide +kernel
theorem dX1_pass_124 : decode cX1_pass 124 = .ok (.ifCond .ne 11, 3) := by decide +kernel
theorem dX1_pass_127 : decode cX1_pass 127 = .ok (.iload 5, 2) := by decide +kernel
theorem dX1_pass_129 : decode cX1_pass 129 = .ok (.ifCond .eq 6, 3) := by decide +kernel
theorem dX1_pass_132 : decode cX1_pass 132 = .ok (.bipush (-4), 2) := by decide +kernel
theorem dX1_pass_134 : decode cX1_pass 134 = .ok (.ireturn, 1) := by decide +kernel
theorem dX1_pass_135 : decode cX1_pass 135 = .ok (.aload_n 0, 1) := by decide +kernel
theorem dX1_pass_136 : decode cX1_pass 136 = .ok (.iload_n 1, 1) := by decide +kernel
theorem dX1_pass_137 : decode cX1_pass 137 = .ok (.iload_n 3, 1) := by decide +kernel
theorem dX1_pass_138 : decode cX1_pass 138 = .ok (.invokevirtual 81, 3) := by decide +kernel
theorem dX1_pass_141 : decode cX1_pass 141 = .ok (.istore 4, 2) := by decide +kernel
theorem dX1_pass_143 : decode cX1_pass 143 = .ok (.aload_n 0, 1) := by decide +kernel
theorem dX1_pass_144 : decode cX1_pass 144 = .ok (.iconst 2, 1) := by decide +kernel
theorem dX1_pass_145 : decode cX1_pass 145 = .ok (.iload_n 1, 1) := by decide +kernel
theorem dX1_pass_146 : decode cX1_pass 146 = .ok (.iconst 0, 1) := by decide +kernel
theorem dX1_pass_147 : decode cX1_pass 147 = .ok (.invokevirtual 61, 3) := by decide +kernel
theorem dX1_pass_150 : decode cX1_pass 150 = .ok (.aload_n 0, 1) := by decide +kernel
theorem dX1_pass_151 : decode cX1_pass 151 = .ok (.iconst 0, 1) := by decide +kernel
theorem dX1_pass_152 : decode cX1_pass 152 = .ok (.iload_n 1, 1) := by decide +kernel
theorem dX1_pass_153 : decode cX1_pass 153 = .ok (.iconst 0, 1) := by decide +kernel
theorem dX1_pass_154 : decode cX1_pass 154 = .ok (.invokevirtual 61, 3) := by decide +kernel
theorem dX1_pass_157 : decode cX1_pass 157 = .ok (.aload_n 0, 1) := by decide +kernel
theorem dX1_pass_158 : decode cX1_pass 158 = .ok (.iload 4, 2) := by decide +kernel
theorem dX1_pass_160 : decode cX1_pass 160 = .ok (.invokevirtual 51, 3) := by decide +kernel
theorem dX1_pass_163 : decode cX1_pass 163 = .ok (.ireturn, 1) := by decide +kernel
theorem dX1_survey_0 : decode cX1_survey 0 = .ok (.iload_n 1, 1) := by decide +kernel
theorem dX1_survey_1 : decode cX1_survey 1 = .ok (.bipush 24, 2) := by decide +kernel
theorem dX1_survey_3 : decode cX1_survey 3 = .ok (.if_icmp .gt 9, 3) := by decide +kernel
theorem dX1_survey_6 : decode cX1_survey 6 = .ok (.iload_n 2, 1) := by decide +kernel
theorem dX1_survey_7 : decode cX1_survey 7 = .ok (.bipush 24, 2) := by decide +kernel
theorem dX1_survey_9 : decode cX1_survey 9 = .ok (.if_icmp .le 6, 3) := by decide +kernel
theorem dX1_survey_12 : decode cX1_survey 12 = .ok (.bipush (-2), 2) := by decide +kernel
theorem dX1_survey_14 : decode cX1_survey 14 = .ok (.ireturn, 1) := by decide +kernel
theorem dX1_survey_15 : decode cX1_survey 15 = .ok (.iload_n 1, 1) := by decide +kernel
theorem dX1_survey_16 : decode cX1_survey 16 = .ok (.ifCond .lt 7, 3) := by decide +kernel
theorem dX1_survey_19 : decode cX1_survey 19 = .ok (.iload_n 2, 1) := by decide +kernel
theorem dX1_survey_20 : decode cX1_survey 20 = .ok (.ifCond .ge 6, 3) := by decide +kernel
theorem dX1_survey_23 : decode cX1_survey 23 = .ok (.bipush (-3), 2) := by decide +kernel
theorem dX1_survey_25 : decode cX1_survey 25 = .ok (.ireturn, 1) := by decide +kernel
theorem dX1_survey_26 : decode cX1_survey 26 = .ok (.aload_n 0, 1) := by decide +kernel
theorem dX1_survey_27 : decode cX1_survey 27 = .ok (.iconst 1, 1) := by decide +kernel
theorem dX1_survey_28 : decode cX1_survey 28 = .ok (.putfield 84, 3) := by decide +kernel
theorem dX1_survey_31 : decode cX1_survey 31 = .ok (.aload_n 0, 1) := by decide +kernel
theorem dX1_survey_32 : decode cX1_survey 32 = .ok (.iload_n 1, 1) := by decide +kernel
theorem dX1_survey_33 : decode cX1_survey 33 = .ok (.putfield 88, 3) := by decide +kernel
theorem dX1_survey_36 : decode cX1_survey 36 = .ok (.aload_n 0, 1) := by decide +kernel
theorem dX1_survey_37 : decode cX1_survey 37 = .ok (.iload_n 2, 1) := by decide +kernel
theorem dX1_survey_38 : decode cX1_survey 38 = .ok (.putfield 91, 3) := by decide +kernel
theorem dX1_survey_41 : decode cX1_survey 41 = .ok (.iconst 0, 1) := by decide +kernel
theorem dX1_survey_42 : decode cX1_survey 42 = .ok (.istore_n 3, 1) := by decide +kernel
theorem dX1_survey_43 : decode cX1_survey 43 = .ok (.iload_n 3, 1) := by decide +kernel
theorem dX1_survey_44 : decode cX1_survey 44 = .ok (.sipush 576, 3) := by decide +kernel
theorem dX1_survey_47 : decode cX1_survey 47 = .ok (.if_icmp .ge 16, 3) := by decide +kernel
theorem dX1_survey_50 : decode cX1_survey 50 = .ok (.aload_n 0, 1) := by decide +kernel
theorem dX1_survey_51 : decode cX1_survey 51 = .ok (.getfield 16, 3) := by decide +kernel
theorem dX1_survey_54 : decode cX1_survey 54 = .ok (.iload_n 3, 1) := by decide +kernel
theorem dX1_survey_55 : decode cX1_survey 55 = .ok (.iconst 0, 1) := by decide +kernel
theorem dX1_survey_56 : decode cX1_survey 56 = .ok (.iastore, 1) := by decide +kernel
theorem dX1_survey_57 : decode cX1_survey 57 = .ok (.iinc 3 1, 3) := by decide +kernel
theorem dX1_survey_60 : decode cX1_survey 60 = .ok (.goto (-17), 3) := by decide +kernel
theorem dX1_survey_63 : decode cX1_survey 63 = .ok (.iconst 0, 1) := by decide +kernel
theorem dX1_survey_64 : decode cX1_survey 64 = .ok (.ireturn, 1) := by decide +kernel
theorem dX1_hasRow_0 : decode cX1_hasRow 0 = .ok (.aload_n 0, 1) := by decide +kernel
theorem dX1_hasRow_1 : decode cX1_hasRow 1 = .ok (.getfield 23, 3) := by decide +kernel
theorem dX1_hasRow_4 : decode cX1_hasRow 4 = .ok (.ifCond .eq 5, 3) := by decide +kernel
theorem dX1_hasRow_7 : decode cX1_hasRow 7 = .ok (.iconst 0, 1) := by decide +kernel
theorem dX1_hasRow_8 : decode cX1_hasRow 8 = .ok (.ireturn, 1) := by decide +kernel
theorem dX1_hasRow_9 : decode cX1_hasRow 9 = .ok (.aload_n 0, 1) := by decide +kernel
theorem dX1_hasRow_10 : decode cX1_hasRow 10 = .ok (.aload_n 0, 1) := by decide +kernel
theorem dX1_hasRow_11 : decode cX1_hasRow 11 = .ok (.getfield 84, 3) := by decide +kernel
theorem dX1_hasRow_14 : decode cX1_hasRow 14 = .ok (.ifCond .ne 8, 3) := by decide +kernel
theorem dX1_hasRow_17 : decode cX1_hasRow 17 = .ok (.ldc 94, 2) := by decide +kernel
theorem dX1_hasRow_19 : decode cX1_hasRow 19 = .ok (.goto 21, 3) := by decide +kernel
theorem dX1_hasRow_22 : decode cX1_hasRow 22 = .ok (.iload_n 1, 1) := by decide +kernel
theorem dX1_hasRow_23 : decode cX1_hasRow 23 = .ok (.ifCond .lt 11, 3) := by decide +kernel
theorem dX1_hasRow_26 : decode cX1_hasRow 26 = .ok (.iload_n 1, 1) := by decide +kernel
theorem dX1_hasRow_27 : decode cX1_hasRow 27 = .ok (.aload_n 0, 1) := by decide +kernel
theorem dX1_hasRow_28 : decode cX1_hasRow 28 = .ok (.getfield 88, 3) := by decide +kernel
theorem dX1_hasRow_31 : decode cX1_hasRow 31 = .ok (.if_icmp .lt 8, 3) := by decide +kernel
theorem dX1_hasRow_34 : decode cX1_hasRow 34 = .ok (.ldc 95, 2) := by decide +kernel
theorem dX1_hasRow_36 : decode cX1_hasRow 36 = .ok (.goto 4, 3) := by decide +kernel
theorem dX1_hasRow_39 : decode cX1_hasRow 39 = .ok (.iconst 0, 1) := by decide +kernel
theorem dX1_hasRow_40 : decode cX1_hasRow 40 = .ok (.putfield 23, 3) := by decide +kernel
theorem dX1_hasRow_43 : decode cX1_hasRow 43 = .ok (.aload_n 0, 1) := by decide +kernel
theorem dX1_hasRow_44 : decode cX1_hasRow 44 = .ok (.getfield 23, 3) := by decide +kernel
theorem dX1_hasRow_47 : decode cX1_hasRow 47 = .ok (.ifCond .ne 7, 3) := by decide +kernel
theorem dX1_hasRow_50 : decode cX1_hasRow 50 = .ok (.iconst 1, 1) := by decide +kernel
theorem dX1_hasRow_51 : decode cX1_hasRow 51 = .ok (.goto 4, 3) := by decide +kernel
theorem dX1_hasRow_54 : decode cX1_hasRow 54 = .ok (.iconst 0, 1) := by decide +kernel
theorem dX1_hasRow_55 : decode cX1_hasRow 55 = .ok (.ireturn, 1) := by decide +kernel
set_option maxRecDepth 20000 in
theorem ggX1_hasPlace_X1_hasRow : GoodIn wsX1_hasPlace wsX1_hasRow := goodIn_r _ [8, 3, 9, 10, 11, 12, 13, 14, 15, 16, 17, 18, 19, 20, 21, 22, 23, 24] (by decide +kernel) (by decide +kernel)
set_option maxRecDepth 20000 in
theorem gX1_hasPlace_X1_hasRow : GoodIn wsX1_hasPlace (wsV RX1 96 RX1 yX1_hasRow wsX1_hasRow) := goodIn_app (goodIn_of _ (by decide +kernel)) ggX1_hasPlace_X1_hasRow
theorem dX1_hasPlace_0 : decode cX1_hasPlace 0 = .ok (.aload_n 0, 1) := by decide +kernel
theorem dX1_hasPlace_1 : decode cX1_hasPlace 1 = .ok (.iload_n 1, 1) := by decide +kernel
theorem dX1_hasPlace_2 : decode cX1_hasPlace 2 = .ok (.invokevirtual 96, 3) := by decide +kernel
theorem dX1_hasPlace_5 : decode cX1_hasPlace 5 = .ok (.ifCond .eq 21, 3) := by decide +kernel
theorem dX1_hasPlace_8 : decode cX1_hasPlace 8 = .ok (.iload_n 2, 1) := by decide +kernel
theorem dX1_hasPlace_9 : decode cX1_hasPlace 9 = .ok (.ifCond .lt 11, 3) := by decide +kernel
theorem dX1_hasPlace_12 : decode cX1_hasPlace 12 = .ok (.iload_n 2, 1) := by decide +kernel
theorem dX1_hasPlace_13 : decode cX1_hasPlace 13 = .ok (.aload_n 0, 1) := by decide +kernel
theorem dX1_hasPlace_14 : decode cX1_hasPlace 14 = .ok (.getfield 91, 3) := by decide +kernel
theorem dX1_hasPlace_17 : decode cX1_hasPlace 17 = .ok (.if_icmp .lt 9, 3) := by decide +kernel
theorem dX1_hasPlace_20 : decode cX1_hasPlace 20 = .ok (.aload_n 0, 1) := by decide +kernel
theorem dX1_hasPlace_21 : decode cX1_hasPlace 21 = .ok (.ldc 99, 2) := by decide +kernel
theorem dX1_hasPlace_23 : decode cX1_hasPlace 23 = .ok (.putfield 23, 3) := by decide +kernel
theorem dX1_hasPlace_26 : decode cX1_hasPlace 26 = .ok (.aload_n 0, 1) := by decide +kernel
theorem dX1_hasPlace_27 : decode cX1_hasPlace 27 = .ok (.getfield 23, 3) := by decide +kernel
theorem dX1_hasPlace_30 : decode cX1_hasPlace 30 = .ok (.ifCond .ne 7, 3) := by decide +kernel
theorem dX1_hasPlace_33 : decode cX1_hasPlace 33 = .ok (.iconst 1, 1) := by decide +kernel
theorem dX1_hasPlace_34 : decode cX1_hasPlace 34 = .ok (.goto 4, 3) := by decide +kernel
theorem dX1_hasPlace_37 : decode cX1_hasPlace 37 = .ok (.iconst 0, 1) := by decide +kernel
theorem dX1_hasPlace_38 : decode cX1_hasPlace 38 = .ok (.ireturn, 1) := by decide +kernel
set_option maxRecDepth 20000 in
theorem ggX1_note_X1_isBook : GoodIn wsX1_note wsX1_isBook := goodIn_r _ [7] (by decide +kernel) (by decide +kernel)
set_option maxRecDepth 20000 in
theorem gX1_note_X1_isBook : GoodIn wsX1_note (va_wsS RX1 46 yX1_isBook wsX1_isBook) := goodIn_app (goodIn_of _ (by decide +kernel)) ggX1_note_X1_isBook
set_option maxRecDepth 20000 in
theorem ggX1_note_X1_cell : GoodIn wsX1_note wsX1_cell := goodIn_r _ [11, 12, 13, 14, 15, 6, 16, 2, 17, 18, 19, 40, 41, 42, 43, 44, 45, 46, 47, 48, 49, 50, 51] (by decide +kernel) (by decide +kernel)
set_option maxRecDepth 20000 in
theorem gX1_note_X1_cell : GoodIn wsX1_note (wsV RX1 55 RX1 yX1_cell wsX1_cell) := goodIn_app (goodIn_of _ (by decide +kernel)) ggX1_note_X1_cell
set_option maxRecDepth 20000 in
theorem ggX1_note_X1_hasPlace : GoodIn wsX1_note wsX1_hasPlace := goodIn_r _ [23, 24, 25, 2, 26, 27, 28, 6, 29, 30, 31, 32, 33, 40, 41, 42, 43, 44, 45, 46, 47, 48, 49, 50, 51] (by decide +kernel) (by decide +kernel)
set_option maxRecDepth 20000 in
theorem gX1_note_X1_hasPlace : GoodIn wsX1_note (wsV RX1 100 RX1 yX1_hasPlace wsX1_hasPlace) := goodIn_app (goodIn_of _ (by decide +kernel)) ggX1_note_X1_hasPlace
set_option maxRecDepth 20000 in
theorem ggX1_note_X1_answer : GoodIn wsX1_note wsX1_answer := goodIn_r _ [37, 2, 38, 39, 40, 41, 42, 43, 44, 45, 46, 47, 48, 49, 50, 51] (by decide +kernel) (by decide +kernel)
set_option maxRecDepth 20000 in
theorem gX1_note_X1_answer : GoodIn wsX1_note (wsV RX1 51 RX1 yX1_answer wsX1_answer) := goodIn_app (goodIn_of _ (by decide +kernel)) ggX1_note_X1_answer
theorem dX1_note_0 : decode cX1_note 0 = .ok (.iload_n 1, 1) := by decide +kernel
theorem dX1_note_1 : decode cX1_note 1 = .ok (.invokestatic 46, 3) := by decide +kernel
theorem dX1_note_4 : decode cX1_note 4 = .ok (.ifCond .ne 6, 3) := by decide +kernel
theorem dX1_note_7 : decode cX1_note 7 = .ok (.ldc 50, 2) := by decide +kernel
theorem dX1_note_9 : decode cX1_note 9 = .ok (.ireturn, 1) := by decide +kernel
theorem dX1_note_10 : decode cX1_note 10 = .ok (.aload_n 0, 1) := by decide +kernel
theorem dX1_note_11 : decode cX1_note 11 = .ok (.iconst 0, 1) := by decide +kernel
theorem dX1_note_12 : decode cX1_note 12 = .ok (.putfield 23, 3) := by decide +kernel
theorem dX1_note_15 : decode cX1_note 15 = .ok (.aload_n 0, 1) := by decide +kernel
theorem dX1_note_16 : decode cX1_note 16 = .ok (.iload_n 1, 1) := by decide +kernel
theorem dX1_note_17 : decode cX1_note 17 = .ok (.iload_n 2, 1) := by decide +kernel
theorem dX1_note_18 : decode cX1_note 18 = .ok (.invokevirtual 55, 3) := by decide +kernel
theorem dX1_note_21 : decode cX1_note 21 = .ok (.istore 5, 2) := by decide +kernel
theorem dX1_note_23 : decode cX1_note 23 = .ok (.aload_n 0, 1) := by decide +kernel
theorem dX1_note_24 : decode cX1_note 24 = .ok (.iload_n 3, 1) := by decide +kernel
theorem dX1_note_25 : decode cX1_note 25 = .ok (.iload 4, 2) := by decide +kernel
theorem dX1_note_27 : decode cX1_note 27 = .ok (.invokevirtual 100, 3) := by decide +kernel
theorem dX1_note_30 : decode cX1_note 30 = .ok (.ifCond .eq 17, 3) := by decide +kernel
theorem dX1_note_33 : decode cX1_note 33 = .ok (.aload_n 0, 1) := by decide +kernel
theorem dX1_note_34 : decode cX1_note 34 = .ok (.getfield 16, 3) := by decide +kernel
theorem dX1_note_37 : decode cX1_note 37 = .ok (.bipush 24, 2) := by decide +kernel
theorem dX1_note_39 : decode cX1_note 39 = .ok (.iload_n 3, 1) := by decide +kernel
theorem dX1_note_40 : decode cX1_note 40 = .ok (.imul, 1) := by decide +kernel
theorem dX1_note_41 : decode cX1_note 41 = .ok (.iload 4, 2) := by decide +kernel
theorem dX1_note_43 : decode cX1_note 43 = .ok (.iadd, 1) := by decide +kernel
theorem dX1_note_44 : decode cX1_note 44 = .ok (.iload 5, 2) := by decide +kernel
theorem dX1_note_46 : decode cX1_note 46 = .ok (.iastore, 1) := by decide +kernel
theorem dX1_note_47 : decode cX1_note 47 = .ok (.aload_n 0, 1) := by decide +kernel
theorem dX1_note_48 : decode cX1_note 48 = .ok (.iconst 0, 1) := by decide +kernel
theorem dX1_note_49 : decode cX1_note 49 = .ok (.invokevirtual 51, 3) := by decide +kernel
theorem dX1_note_52 : decode cX1_note 52 = .ok (.ireturn, 1) := by decide +kernel
set_option maxRecDepth 20000 in
theorem ggX1_chart_X1_hasPlace : GoodIn wsX1_chart wsX1_hasPlace := goodIn_r _ [7, 8, 9, 1, 10, 11, 12, 6, 13, 14, 15, 16, 17, 24, 25, 26, 27, 28, 29, 30, 31, 32, 33, 34, 35] (by decide +kernel) (by decide +kernel)
set_option maxRecDepth 20000 in
theorem gX1_chart_X1_hasPlace : GoodIn wsX1_chart (wsV RX1 100 RX1 yX1_hasPlace wsX1_hasPlace) := goodIn_app (goodIn_of _ (by decide +kernel)) ggX1_chart_X1_hasPlace
set_option maxRecDepth 20000 in
theorem ggX1_chart_X1_answer : GoodIn wsX1_chart wsX1_answer := goodIn_r _ [21, 1, 22, 23, 24, 25, 26, 27, 28, 29, 30, 31, 32, 33, 34, 35] (by decide +kernel) (by decide +kernel)
set_option maxRecDepth 20000 in
theorem gX1_chart_X1_answer : GoodIn wsX1_chart (wsV RX1 51 RX1 yX1_answer wsX1_answer) := goodIn_app (goodIn_of _ (by decide +kernel)) ggX1_chart_X1_answer
theorem dX1_chart_0 : decode cX1_chart 0 = .ok (.aload_n 0, 1) := by decide +kernel
theorem dX1_chart_1 : decode cX1_chart 1 = .ok (.iconst 0, 1) := by decide +kernel
theorem dX1_chart_2 : decode cX1_chart 2 = .ok (.putfield 23, 3) := by decide +kernel
theorem dX1_chart_5 : decode cX1_chart 5 = .ok (.aload_n 0, 1) := by decide +kernel
theorem dX1_chart_6 : decode cX1_chart 6 = .ok (.iload_n 1, 1) := by decide +kernel
theorem dX1_chart_7 : decode cX1_chart 7 = .ok (.iload_n 2, 1) := by decide +kernel
theorem dX1_chart_8 : decode cX1_chart 8 = .ok (.invokevirtual 100, 3) := by decide +kernel
theorem dX1_chart_11 : decode cX1_chart 11 = .ok (.ifCond .eq 17, 3) := by decide +kernel
theorem dX1_chart_14 : decode cX1_chart 14 = .ok (.aload_n 0, 1) := by decide +kernel
theorem dX1_chart_15 : decode cX1_chart 15 = .ok (.getfield 16, 3) := by decide +kernel
theorem dX1_chart_18 : decode cX1_chart 18 = .ok (.bipush 24, 2) := by decide +kernel
theorem dX1_chart_20 : decode cX1_chart 20 = .ok (.iload_n 1, 1) := by decide +kernel
theorem dX1_chart_21 : decode cX1_chart 21 = .ok (.imul, 1) := by decide +kernel
theorem dX1_chart_22 : decode cX1_chart 22 = .ok (.iload_n 2, 1) := by decide +kernel
theorem dX1_chart_23 : decode cX1_chart 23 = .ok (.iadd, 1) := by decide +kernel
theorem dX1_chart_24 : decode cX1_chart 24 = .ok (.iaload, 1) := by decide +kernel
theorem dX1_chart_25 : decode cX1_chart 25 = .ok (.goto 4, 3) := by decide +kernel
theorem dX1_chart_28 : decode cX1_chart 28 = .ok (.iconst 0, 1) := by decide +kernel
theorem dX1_chart_29 : decode cX1_chart 29 = .ok (.istore_n 3, 1) := by decide +kernel
theorem dX1_chart_30 : decode cX1_chart 30 = .ok (.aload_n 0, 1) := by decide +kernel
theorem dX1_chart_31 : decode cX1_chart 31 = .ok (.iload_n 3, 1) := by decide +kernel
theorem dX1_chart_32 : decode cX1_chart 32 = .ok (.invokevirtual 51, 3) := by decide +kernel
theorem dX1_chart_35 : decode cX1_chart 35 = .ok (.ireturn, 1) := by decide +kernel
set_option maxRecDepth 20000 in
theorem ggX1_columns_X1_hasRow : GoodIn wsX1_columns wsX1_hasRow := goodIn_r _ [7, 1, 8, 9, 10, 11, 18, 19, 20, 21, 22, 23, 24, 25, 26, 27, 28, 29] (by decide +kernel) (by decide +kernel)
set_option maxRecDepth 20000 in
theorem gX1_columns_X1_hasRow : GoodIn wsX1_columns (wsV RX1 96 RX1 yX1_hasRow wsX1_hasRow) := goodIn_app (goodIn_of _ (by decide +kernel)) ggX1_columns_X1_hasRow
set_option maxRecDepth 20000 in
theorem ggX1_columns_X1_answer : GoodIn wsX1_columns wsX1_answer := goodIn_r _ [15, 1, 16, 17, 18, 19, 20, 21, 22, 23, 24, 25, 26, 27, 28, 29] (by decide +kernel) (by decide +kernel)
set_option maxRecDepth 20000 in
theorem gX1_columns_X1_answer : GoodIn wsX1_columns (wsV RX1 51 RX1 yX1_answer wsX1_answer) := goodIn_app (goodIn_of _ (by decide +kernel)) ggX1_columns_X1_answer
theorem dX1_columns_0 : decode cX1_columns 0 = .ok (.aload_n 0, 1) := by decide +kernel
theorem dX1_columns_1 : decode cX1_columns 1 = .ok (.iconst 0, 1) := by decide +kernel
theorem dX1_columns_2 : decode cX1_columns 2 = .ok (.putfield 23, 3) := by decide +kernel
theorem dX1_columns_5 : decode cX1_columns 5 = .ok (.aload_n 0, 1) := by decide +kernel
theorem dX1_columns_6 : decode cX1_columns 6 = .ok (.iload_n 1, 1) := by decide +kernel
theorem dX1_columns_7 : decode cX1_columns 7 = .ok (.invokevirtual 96, 3) := by decide +kernel
theorem dX1_columns_10 : decode cX1_columns 10 = .ok (.ifCond .eq 10, 3) := by decide +kernel
theorem dX1_columns_13 : decode cX1_columns 13 = .ok (.aload_n 0, 1) := by decide +kernel
theorem dX1_columns_14 : decode cX1_columns 14 = .ok (.getfield 91, 3) := by decide +kernel
theorem dX1_columns_17 : decode cX1_columns 17 = .ok (.goto 4, 3) := by decide +kernel
theorem dX1_columns_20 : decode cX1_columns 20 = .ok (.iconst 0, 1) := by decide +kernel
theorem dX1_columns_21 : decode cX1_columns 21 = .ok (.istore_n 2, 1) := by decide +kernel
theorem dX1_columns_22 : decode cX1_columns 22 = .ok (.aload_n 0, 1) := by decide +kernel
theorem dX1_columns_23 : decode cX1_columns 23 = .ok (.iload_n 2, 1) := by decide +kernel
theorem dX1_columns_24 : decode cX1_columns 24 = .ok (.invokevirtual 51, 3) := by decide +kernel
theorem dX1_columns_27 : decode cX1_columns 27 = .ok (.ireturn, 1) := by decide +kernel
theorem dX1_look_0 : decode cX1_look 0 = .ok (.iload_n 1, 1) := by decide +kernel
theorem dX1_look_1 : decode cX1_look 1 = .ok (.iconst 5, 1) := by decide +kernel
theorem dX1_look_2 : decode cX1_look 2 = .ok (.if_icmp .ne 37, 3) := by decide +kernel
theorem dX1_look_5 : decode cX1_look 5 = .ok (.iconst 0, 1) := by decide +kernel
theorem dX1_look_6 : decode cX1_look 6 = .ok (.istore_n 2, 1) := by decide +kernel
theorem dX1_look_7 : decode cX1_look 7 = .ok (.iconst 0, 1) := by decide +kernel
theorem dX1_look_8 : decode cX1_look 8 = .ok (.istore_n 3, 1) := by decide +kernel
theorem dX1_look_9 : decode cX1_look 9 = .ok (.iload_n 3, 1) := by decide +kernel
theorem dX1_look_10 : decode cX1_look 10 = .ok (.iconst 5, 1) := by decide +kernel
theorem dX1_look_11 : decode cX1_look 11 = .ok (.if_icmp .ge 26, 3) := by decide +kernel
theorem dX1_look_14 : decode cX1_look 14 = .ok (.iload_n 2, 1) := by decide +kernel
theorem dX1_look_15 : decode cX1_look 15 = .ok (.aload_n 0, 1) := by decide +kernel
theorem dX1_look_16 : decode cX1_look 16 = .ok (.getfield 7, 3) := by decide +kernel
theorem dX1_look_19 : decode cX1_look 19 = .ok (.iload_n 3, 1) := by decide +kernel
theorem dX1_look_20 : decode cX1_look 20 = .ok (.iaload, 1) := by decide +kernel
theorem dX1_look_21 : decode cX1_look 21 = .ok (.ifCond .lt 7, 3) := by decide +kernel
theorem dX1_look_24 : decode cX1_look 24 = .ok (.iconst 1, 1) := by decide +kernel
theorem dX1_look_25 : decode cX1_look 25 = .ok (.goto 4, 3) := by decide +kernel
theorem dX1_look_28 : decode cX1_look 28 = .ok (.iconst 0, 1) := by decide +kernel
theorem dX1_look_29 : decode cX1_look 29 = .ok (.iadd, 1) := by decide +kernel
theorem dX1_look_30 : decode cX1_look 30 = .ok (.istore_n 2, 1) := by decide +kernel
theorem dX1_look_31 : decode cX1_look 31 = .ok (.iinc 3 1, 3) := by decide +kernel
theorem dX1_look_34 : decode cX1_look 34 = .ok (.goto (-25), 3) := by decide +kernel
theorem dX1_look_37 : decode cX1_look 37 = .ok (.iload_n 2, 1) := by decide +kernel
theorem dX1_look_38 : decode cX1_look 38 = .ok (.ireturn, 1) := by decide +kernel
theorem dX1_look_39 : decode cX1_look 39 = .ok (.iload_n 1, 1) := by decide +kernel
theorem dX1_look_40 : decode cX1_look 40 = .ok (.ifCond .ne 10, 3) := by decide +kernel
theorem dX1_look_43 : decode cX1_look 43 = .ok (.aload_n 0, 1) := by decide +kernel
theorem dX1_look_44 : decode cX1_look 44 = .ok (.getfield 19, 3) := by decide +kernel
theorem dX1_look_47 : decode cX1_look 47 = .ok (.goto 53, 3) := by decide +kernel
theorem dX1_look_50 : decode cX1_look 50 = .ok (.iload_n 1, 1) := by decide +kernel
theorem dX1_look_51 : decode cX1_look 51 = .ok (.iconst 1, 1) := by decide +kernel
theorem dX1_look_52 : decode cX1_look 52 = .ok (.if_icmp .ne 10, 3) := by decide +kernel
theorem dX1_look_55 : decode cX1_look 55 = .ok (.aload_n 0, 1) := by decide +kernel
theorem dX1_look_56 : decode cX1_look 56 = .ok (.getfield 75, 3) := by decide +kernel
theorem dX1_look_59 : decode cX1_look 59 = .ok (.goto 41, 3) := by decide +kernel
theorem dX1_look_62 : decode cX1_look 62 = .ok (.iload_n 1, 1) := by decide +kernel
theorem dX1_look_63 : decode cX1_look 63 = .ok (.iconst 2, 1) := by decide +kernel
theorem dX1_look_64 : decode cX1_look 64 = .ok (.if_icmp .ne 10, 3) := by decide +kernel
theorem dX1_look_67 : decode cX1_look 67 = .ok (.aload_n 0, 1) := by decide +kernel
theorem dX1_look_68 : decode cX1_look 68 = .ok (.getfield 78, 3) := by decide +kernel
theorem dX1_look_71 : decode cX1_look 71 = .ok (.goto 29, 3) := by decide +kernel
theorem dX1_look_74 : decode cX1_look 74 = .ok (.iload_n 1, 1) := by decide +kernel
theorem dX1_look_75 : decode cX1_look 75 = .ok (.iconst 3, 1) := by decide +kernel
theorem dX1_look_76 : decode cX1_look 76 = .ok (.if_icmp .ne 10, 3) := by decide +kernel
theorem dX1_look_79 : decode cX1_look 79 = .ok (.aload_n 0, 1) := by decide +kernel
theorem dX1_look_80 : decode cX1_look 80 = .ok (.getfield 40, 3) := by decide +kernel
theorem dX1_look_83 : decode cX1_look 83 = .ok (.goto 17, 3) := by decide +kernel
theorem dX1_look_86 : decode cX1_look 86 = .ok (.iload_n 1, 1) := by decide +kernel
theorem dX1_look_87 : decode cX1_look 87 = .ok (.iconst 4, 1) := by decide +kernel
theorem dX1_look_88 : decode cX1_look 88 = .ok (.if_icmp .ne 10, 3) := by decide +kernel
theorem dX1_look_91 : decode cX1_look 91 = .ok (.aload_n 0, 1) := by decide +kernel
theorem dX1_look_92 : decode cX1_look 92 = .ok (.getfield 43, 3) := by decide +kernel
theorem dX1_look_95 : decode cX1_look 95 = .ok (.goto 5, 3) := by decide +kernel
theorem dX1_look_98 : decode cX1_look 98 = .ok (.ldc 50, 2) := by decide +kernel
theorem dX1_look_100 : decode cX1_look 100 = .ok (.ireturn, 1) := by decide +kernel
theorem dJ9_max_7cf53_0 : decode cJ9_max_7cf53 0 = .ok (.iload_n 0, 1) := by decide +kernel
theorem dJ9_max_7cf53_1 : decode cJ9_max_7cf53 1 = .ok (.iload_n 1, 1) := by decide +kernel
theorem dJ9_max_7cf53_2 : decode cJ9_max_7cf53 2 = .ok (.if_icmp .lt 7, 3) := by decide +kernel
theorem dJ9_max_7cf53_5 : decode cJ9_max_7cf53 5 = .ok (.iload_n 0, 1) := by decide +kernel
theorem dJ9_max_7cf53_6 : decode cJ9_max_7cf53 6 = .ok (.goto 4, 3) := by decide +kernel
theorem dJ9_max_7cf53_9 : decode cJ9_max_7cf53 9 = .ok (.iload_n 1, 1) := by decide +kernel
theorem dJ9_max_7cf53_10 : decode cJ9_max_7cf53 10 = .ok (.ireturn, 1) := by decide +kernel
theorem dJ9_min_7cf53_0 : decode cJ9_min_7cf53 0 = .ok (.iload_n 0, 1) := by decide +kernel
theorem dJ9_min_7cf53_1 : decode cJ9_min_7cf53 1 = .ok (.iload_n 1, 1) := by decide +kernel
theorem dJ9_min_7cf53_2 : decode cJ9_min_7cf53 2 = .ok (.if_icmp .gt 7, 3) := by decide +kernel
theorem dJ9_min_7cf53_5 : decode cJ9_min_7cf53 5 = .ok (.iload_n 0, 1) := by decide +kernel
theorem dJ9_min_7cf53_6 : decode cJ9_min_7cf53 6 = .ok (.goto 4, 3) := by decide +kernel
theorem dJ9_min_7cf53_9 : decode cJ9_min_7cf53 9 = .ok (.iload_n 1, 1) := by decide +kernel
theorem dJ9_min_7cf53_10 : decode cJ9_min_7cf53 10 = .ok (.ireturn, 1) := by decide +kernel
theorem dJ7_fill_53178_0 : decode cJ7_fill_53178 0 = .ok (.iconst 0, 1) := by decide +kernel
theorem dJ7_fill_53178_1 : decode cJ7_fill_53178 1 = .ok (.istore_n 2, 1) := by decide +kernel
theorem dJ7_fill_53178_2 : decode cJ7_fill_53178 2 = .ok (.aload_n 0, 1) := by decide +kernel
theorem dJ7_fill_53178_3 : decode cJ7_fill_53178 3 = .ok (.arraylength, 1) := by decide +kernel
theorem dJ7_fill_53178_4 : decode cJ7_fill_53178 4 = .ok (.istore_n 3, 1) := by decide +kernel
theorem dJ7_fill_53178_5 : decode cJ7_fill_53178 5 = .ok (.iload_n 2, 1) := by decide +kernel
theorem dJ7_fill_53178_6 : decode cJ7_fill_53178 6 = .ok (.iload_n 3, 1) := by decide +kernel
theorem dJ7_fill_53178_7 : decode cJ7_fill_53178 7 = .ok (.if_icmp .ge 13, 3) := by decide +kernel
theorem dJ7_fill_53178_10 : decode cJ7_fill_53178 10 = .ok (.aload_n 0, 1) := by decide +kernel
theorem dJ7_fill_53178_11 : decode cJ7_fill_53178 11 = .ok (.iload_n 2, 1) := by decide +kernel
theorem dJ7_fill_53178_12 : decode cJ7_fill_53178 12 = .ok (.iload_n 1, 1) := by decide +kernel
theorem dJ7_fill_53178_13 : decode cJ7_fill_53178 13 = .ok (.iastore, 1) := by decide +kernel
theorem dJ7_fill_53178_14 : decode cJ7_fill_53178 14 = .ok (.iinc 2 1, 3) := by decide +kernel
theorem dJ7_fill_53178_17 : decode cJ7_fill_53178 17 = .ok (.goto (-12), 3) := by decide +kernel
theorem dJ7_fill_53178_20 : decode cJ7_fill_53178 20 = .ok (.return_, 1) := by decide +kernel
theorem dL_cell_0 : decode cL_cell 0 = .ok (.iload_n 1, 1) := by decide +kernel
theorem dL_cell_1 : decode cL_cell 1 = .ok (.aload_n 0, 1) := by decide +kernel
theorem dL_cell_2 : decode cL_cell 2 = .ok (.arraylength, 1) := by decide +kernel
theorem dL_cell_3 : decode cL_cell 3 = .ok (.if_icmp .ge 9, 3) := by decide +kernel
theorem dL_cell_6 : decode cL_cell 6 = .ok (.aload_n 0, 1) := by decide +kernel
theorem dL_cell_7 : decode cL_cell 7 = .ok (.iload_n 1, 1) := by decide +kernel
theorem dL_cell_8 : decode cL_cell 8 = .ok (.iaload, 1) := by decide +kernel
theorem dL_cell_9 : decode cL_cell 9 = .ok (.goto 4, 3) := by decide +kernel
theorem dL_cell_12 : decode cL_cell 12 = .ok (.iconst 0, 1) := by decide +kernel
theorem dL_cell_13 : decode cL_cell 13 = .ok (.ireturn, 1) := by decide +kernel
set_option maxRecDepth 20000 in
theorem ggL_law_L_cell : GoodIn wsL_law wsL_cell := goodIn_r _ [9] (by decide +kernel) (by decide +kernel)
set_option maxRecDepth 20000 in
theorem gL_law_L_cell : GoodIn wsL_law (va_wsS RL 9 yL_cell wsL_cell) := goodIn_app (goodIn_of _ (by decide +kernel)) ggL_law_L_cell
set_option maxRecDepth 20000 in
theorem ggL_law_X0_init : GoodIn wsL_law wsX0_init := goodIn_r _ [12, 13, 14, 15, 16, 17, 18, 19, 20, 21, 22, 23, 24, 25, 26, 27, 28, 29, 2, 30, 31, 32, 33, 34, 35, 36, 37, 38, 39, 40, 41, 339, 340, 341, 342, 343, 344, 345, 346, 347, 348] (by decide +kernel) (by decide +kernel)
set_option maxRecDepth 20000 in
theorem gL_law_X0_init : GoodIn wsL_law (wsX0_init) := ggL_law_X0_init
set_option maxRecDepth 20000 in
theorem ggL_law_X1_init : GoodIn wsL_law wsX1_init := goodIn_r _ [44, 45, 14, 15, 16, 46, 47, 48, 49, 349, 350, 351, 352, 353, 354, 355, 356, 357, 358, 359, 360] (by decide +kernel) (by decide +kernel)
set_option maxRecDepth 20000 in
theorem gL_law_X1_init : GoodIn wsL_law (wsX1_init) := ggL_law_X1_init
set_option maxRecDepth 20000 in
theorem ggL_law_X0_keep : GoodIn wsL_law wsX0_keep := goodIn_r _ [53, 54, 19, 17, 55, 56, 2, 57, 38, 39, 40, 41, 339, 340, 341, 342, 343, 344, 345, 346, 347, 348] (by decide +kernel) (by decide +kernel)
set_option maxRecDepth 20000 in
theorem gL_law_X0_keep : GoodIn wsL_law (wsV RL 21 RX0 yX0_keep wsX0_keep) := goodIn_app (goodIn_of _ (by decide +kernel)) ggL_law_X0_keep
set_option maxRecDepth 20000 in
theorem ggL_law_X1_keep : GoodIn wsL_law wsX1_keep := goodIn_r _ [61, 62, 46, 47, 63, 64, 5, 65, 349, 350, 351, 352, 353, 354, 355, 356, 357, 358, 359, 360] (by decide +kernel) (by decide +kernel)
set_option maxRecDepth 20000 in
theorem gL_law_X1_keep : GoodIn wsL_law (wsV RL 25 RX1 yX1_keep wsX1_keep) := goodIn_app (goodIn_of _ (by decide +kernel)) ggL_law_X1_keep
set_option maxRecDepth 20000 in
theorem ggL_law_X0_lose : GoodIn wsL_law wsX0_lose := goodIn_r _ [69, 54, 17, 55, 56, 2, 57, 339, 340, 341, 342, 343, 344, 345, 346, 347, 348] (by decide +kernel) (by decide +kernel)
set_option maxRecDepth 20000 in
theorem gL_law_X0_lose : GoodIn wsL_law (wsV RL 26 RX0 yX0_lose wsX0_lose) := goodIn_app (goodIn_of _ (by decide +kernel)) ggL_law_X0_lose
set_option maxRecDepth 20000 in
theorem ggL_law_X1_lose : GoodIn wsL_law wsX1_lose := goodIn_r _ [73, 62, 46, 63, 64, 5, 65, 349, 350, 351, 352, 353, 354, 355, 356, 357, 358, 359, 360] (by decide +kernel) (by decide +kernel)
set_option maxRecDepth 20000 in
theorem gL_law_X1_lose : GoodIn wsL_law (wsV RL 30 RX1 yX1_lose wsX1_lose) := goodIn_app (goodIn_of _ (by decide +kernel)) ggL_law_X1_lose
set_option maxRecDepth 20000 in
theorem ggL_law_X0_lines : GoodIn wsL_law wsX0_lines := goodIn_r _ [77, 54, 26, 17, 55, 56, 2, 57, 78, 79, 80, 81, 82, 83, 84, 85, 86, 25, 339, 340, 341, 342, 343, 344, 345, 346, 347, 348] (by decide +kernel) (by decide +kernel)
set_option maxRecDepth 20000 in
theorem gL_law_X0_lines : GoodIn wsL_law (wsV RL 31 RX0 yX0_lines wsX0_lines) := goodIn_app (goodIn_of _ (by decide +kernel)) ggL_law_X0_lines
set_option maxRecDepth 20000 in
theorem ggL_law_X1_lines : GoodIn wsL_law wsX1_lines := goodIn_r _ [90, 62, 46, 91, 92, 63, 64, 5, 65, 93, 94, 95, 96, 97, 98, 349, 350, 351, 352, 353, 354, 355, 356, 357, 358, 359, 360] (by decide +kernel) (by decide +kernel)
set_option maxRecDepth 20000 in
theorem gL_law_X1_lines : GoodIn wsL_law (wsV RL 34 RX1 yX1_lines wsX1_lines) := goodIn_app (goodIn_of _ (by decide +kernel)) ggL_law_X1_lines
set_option maxRecDepth 20000 in
theorem ggL_law_X0_read : GoodIn wsL_law wsX0_read := goodIn_r _ [102, 54, 26, 19, 55, 56, 2, 57, 103, 104, 105, 106, 17, 107, 78, 79, 80, 81, 82, 83, 84, 85, 86, 25, 339, 340, 341, 342, 343, 344, 345, 346, 347, 348] (by decide +kernel) (by decide +kernel)
set_option maxRecDepth 20000 in
theorem gL_law_X0_read : GoodIn wsL_law (wsV RL 35 RX0 yX0_read wsX0_read) := goodIn_app (goodIn_of _ (by decide +kernel)) ggL_law_X0_read
set_option maxRecDepth 20000 in
theorem ggL_law_X1_read : GoodIn wsL_law wsX1_read := goodIn_r _ [111, 62, 92, 63, 64, 5, 65, 112, 113, 114, 115, 47, 116, 117, 118, 119, 46, 91, 120, 93, 94, 95, 96, 97, 98, 349, 350, 351, 352, 353, 354, 355, 356, 357, 358, 359, 360] (by decide +kernel) (by decide +kernel)
set_option maxRecDepth 20000 in
theorem gL_law_X1_read : GoodIn wsL_law (wsV RL 38 RX1 yX1_read wsX1_read) := goodIn_app (goodIn_of _ (by decide +kernel)) ggL_law_X1_read
set_option maxRecDepth 20000 in
theorem ggL_law_X0_write : GoodIn wsL_law wsX0_write := goodIn_r _ [124, 54, 26, 55, 56, 2, 57, 125, 126, 127, 103, 104, 105, 106, 17, 107, 78, 79, 80, 81, 82, 83, 84, 85, 86, 25, 128, 129, 130, 131, 19, 132, 133, 134, 135, 136, 137, 28, 29, 30, 31, 32, 33, 34, 35, 36, 37, 339, 340, 341, 342, 343, 344, 345, 346, 347, 348] (by decide +kernel) (by decide +kernel)
set_option maxRecDepth 20000 in
theorem gL_law_X0_write : GoodIn wsL_law (wsV RL 39 RX0 yX0_write wsX0_write) := goodIn_app (goodIn_of _ (by decide +kernel)) ggL_law_X0_write
set_option maxRecDepth 20000 in
theorem ggL_law_X1_write : GoodIn wsL_law wsX1_write := goodIn_r _ [141, 62, 92, 63, 64, 5, 65, 142, 143, 144, 145, 146, 147, 148, 47, 116, 117, 118, 119, 46, 91, 120, 149, 150, 151, 152, 153, 154, 155, 93, 94, 95, 96, 97, 98, 349, 350, 351, 352, 353, 354, 355, 356, 357, 358, 359, 360] (by decide +kernel) (by decide +kernel)
set_option maxRecDepth 20000 in
theorem gL_law_X1_write : GoodIn wsL_law (wsV RL 43 RX1 yX1_write wsX1_write) := goodIn_app (goodIn_of _ (by decide +kernel)) ggL_law_X1_write
set_option maxRecDepth 20000 in
theorem ggL_law_X0_change : GoodIn wsL_law wsX0_change := goodIn_r _ [159, 54, 26, 19, 55, 56, 2, 57, 125, 126, 127, 103, 104, 105, 106, 17, 107, 78, 79, 80, 81, 82, 83, 84, 85, 86, 25, 160, 161, 162, 163, 164, 165, 128, 129, 130, 131, 132, 133, 134, 135, 136, 137, 28, 29, 30, 31, 32, 33, 34, 35, 36, 37, 339, 340, 341, 342, 343, 344, 345, 346, 347, 348] (by decide +kernel) (by decide +kernel)
set_option maxRecDepth 20000 in
theorem gL_law_X0_change : GoodIn wsL_law (wsV RL 44 RX0 yX0_change wsX0_change) := goodIn_app (goodIn_of _ (by decide +kernel)) ggL_law_X0_change
set_option maxRecDepth 20000 in
theorem ggL_law_X1_change : GoodIn wsL_law wsX1_change := goodIn_r _ [169, 62, 92, 63, 64, 5, 65, 142, 143, 144, 112, 113, 114, 115, 47, 116, 117, 118, 119, 46, 91, 120, 170, 171, 172, 145, 146, 147, 148, 149, 150, 151, 152, 153, 154, 155, 93, 94, 95, 96, 97, 98, 349, 350, 351, 352, 353, 354, 355, 356, 357, 358, 359, 360] (by decide +kernel) (by decide +kernel)
set_option maxRecDepth 20000 in
theorem gL_law_X1_change : GoodIn wsL_law (wsV RL 48 RX1 yX1_change wsX1_change) := goodIn_app (goodIn_of _ (by decide +kernel)) ggL_law_X1_change
set_option maxRecDepth 20000 in
theorem ggL_law_X0_tally : GoodIn wsL_law wsX0_tally := goodIn_r _ [176, 54, 26, 17, 19, 55, 56, 2, 57, 78, 79, 80, 81, 82, 83, 84, 85, 86, 25, 339, 340, 341, 342, 343, 344, 345, 346, 347, 348] (by decide +kernel) (by decide +kernel)
set_option maxRecDepth 20000 in
theorem gL_law_X0_tally : GoodIn wsL_law (wsV RL 49 RX0 yX0_tally wsX0_tally) := goodIn_app (goodIn_of _ (by decide +kernel)) ggL_law_X0_tally
set_option maxRecDepth 20000 in
theorem ggL_law_X1_tally : GoodIn wsL_law wsX1_tally := goodIn_r _ [180, 62, 46, 91, 92, 47, 63, 64, 5, 65, 93, 94, 95, 96, 97, 98, 349, 350, 351, 352, 353, 354, 355, 356, 357, 358, 359, 360] (by decide +kernel) (by decide +kernel)
set_option maxRecDepth 20000 in
theorem gL_law_X1_tally : GoodIn wsL_law (wsV RL 52 RX1 yX1_tally wsX1_tally) := goodIn_app (goodIn_of _ (by decide +kernel)) ggL_law_X1_tally
set_option maxRecDepth 20000 in
theorem ggL_law_X0_copy : GoodIn wsL_law wsX0_copy := goodIn_r _ [184, 54, 26, 17, 19, 55, 56, 2, 57, 78, 79, 80, 81, 82, 83, 84, 85, 86, 25, 103, 104, 105, 106, 107, 185, 186, 187, 28, 29, 30, 31, 32, 33, 34, 35, 36, 37, 128, 129, 130, 131, 132, 133, 134, 135, 136, 137, 339, 340, 341, 342, 343, 344, 345, 346, 347, 348] (by decide +kernel) (by decide +kernel)
set_option maxRecDepth 20000 in
theorem gL_law_X0_copy : GoodIn wsL_law (wsV RL 53 RX0 yX0_copy wsX0_copy) := goodIn_app (goodIn_of _ (by decide +kernel)) ggL_law_X0_copy
set_option maxRecDepth 20000 in
theorem ggL_law_X1_copy : GoodIn wsL_law wsX1_copy := goodIn_r _ [191, 62, 46, 91, 92, 47, 63, 64, 5, 65, 145, 146, 147, 148, 116, 117, 118, 119, 120, 149, 150, 151, 152, 153, 154, 155, 93, 94, 95, 96, 97, 98, 349, 350, 351, 352, 353, 354, 355, 356, 357, 358, 359, 360] (by decide +kernel) (by decide +kernel)
set_option maxRecDepth 20000 in
theorem gL_law_X1_copy : GoodIn wsL_law (wsV RL 56 RX1 yX1_copy wsX1_copy) := goodIn_app (goodIn_of _ (by decide +kernel)) ggL_law_X1_copy
set_option maxRecDepth 20000 in
theorem ggL_law_X0_sluice : GoodIn wsL_law wsX0_sluice := goodIn_r _ [195, 54, 26, 19, 196, 197, 198, 2, 199, 27, 103, 104, 105, 106, 17, 107, 78, 79, 80, 81, 82, 83, 84, 85, 86, 25, 128, 129, 130, 131, 132, 133, 134, 135, 136, 137, 28, 29, 30, 31, 32, 33, 34, 35, 36, 37, 200, 201, 202, 203, 339, 340, 341, 342, 343, 344, 345, 346, 347, 348] (by decide +kernel) (by decide +kernel)
set_option maxRecDepth 20000 in
theorem gL_law_X0_sluice : GoodIn wsL_law (wsV RL 57 RX0 yX0_sluice wsX0_sluice) := goodIn_app (goodIn_of _ (by decide +kernel)) ggL_law_X0_sluice
set_option maxRecDepth 20000 in
theorem ggL_law_X1_sluice : GoodIn wsL_law wsX1_sluice := goodIn_r _ [207, 62, 92, 49, 208, 209, 210, 5, 211, 212, 213, 214, 215, 47, 116, 117, 118, 119, 46, 91, 120, 149, 150, 151, 152, 153, 154, 155, 112, 113, 114, 115, 93, 94, 95, 96, 97, 98, 349, 350, 351, 352, 353, 354, 355, 356, 357, 358, 359, 360] (by decide +kernel) (by decide +kernel)
set_option maxRecDepth 20000 in
theorem gL_law_X1_sluice : GoodIn wsL_law (wsV RL 60 RX1 yX1_sluice wsX1_sluice) := goodIn_app (goodIn_of _ (by decide +kernel)) ggL_law_X1_sluice
set_option maxRecDepth 20000 in
theorem ggL_law_X0_open : GoodIn wsL_law wsX0_open := goodIn_r _ [219, 54, 26, 19, 196, 197, 198, 2, 199, 27, 103, 104, 105, 106, 17, 107, 78, 79, 80, 81, 82, 83, 84, 85, 86, 25, 200, 201, 202, 203, 128, 129, 130, 131, 132, 133, 134, 135, 136, 137, 28, 29, 30, 31, 32, 33, 34, 35, 36, 37, 339, 340, 341, 342, 343, 344, 345, 346, 347, 348] (by decide +kernel) (by decide +kernel)
set_option maxRecDepth 20000 in
theorem gL_law_X0_open : GoodIn wsL_law (wsV RL 61 RX0 yX0_open wsX0_open) := goodIn_app (goodIn_of _ (by decide +kernel)) ggL_law_X0_open
set_option maxRecDepth 20000 in
theorem ggL_law_X1_open : GoodIn wsL_law wsX1_open := goodIn_r _ [223, 62, 92, 49, 208, 209, 210, 5, 211, 112, 113, 114, 115, 47, 116, 117, 118, 119, 46, 91, 120, 145, 146, 147, 148, 149, 150, 151, 152, 153, 154, 155, 93, 94, 95, 96, 97, 98, 349, 350, 351, 352, 353, 354, 355, 356, 357, 358, 359, 360] (by decide +kernel) (by decide +kernel)
set_option maxRecDepth 20000 in
theorem gL_law_X1_open : GoodIn wsL_law (wsV RL 64 RX1 yX1_open wsX1_open) := goodIn_app (goodIn_of _ (by decide +kernel)) ggL_law_X1_open
set_option maxRecDepth 20000 in
theorem ggL_law_X0_shut : GoodIn wsL_law wsX0_shut := goodIn_r _ [227, 54, 26, 19, 196, 197, 198, 2, 199, 27, 103, 104, 105, 106, 17, 107, 78, 79, 80, 81, 82, 83, 84, 85, 86, 25, 128, 129, 130, 131, 132, 133, 134, 135, 136, 137, 28, 29, 30, 31, 32, 33, 34, 35, 36, 37, 339, 340, 341, 342, 343, 344, 345, 346, 347, 348] (by decide +kernel) (by decide +kernel)
set_option maxRecDepth 20000 in
theorem gL_law_X0_shut : GoodIn wsL_law (wsV RL 65 RX0 yX0_shut wsX0_shut) := goodIn_app (goodIn_of _ (by decide +kernel)) ggL_law_X0_shut
set_option maxRecDepth 20000 in
theorem ggL_law_X1_shut : GoodIn wsL_law wsX1_shut := goodIn_r _ [231, 62, 92, 208, 209, 210, 5, 211, 49, 112, 113, 114, 115, 47, 116, 117, 118, 119, 46, 91, 120, 145, 146, 147, 148, 149, 150, 151, 152, 153, 154, 155, 93, 94, 95, 96, 97, 98, 349, 350, 351, 352, 353, 354, 355, 356, 357, 358, 359, 360] (by decide +kernel) (by decide +kernel)
set_option maxRecDepth 20000 in
theorem gL_law_X1_shut : GoodIn wsL_law (wsV RL 68 RX1 yX1_shut wsX1_shut) := goodIn_app (goodIn_of _ (by decide +kernel)) ggL_law_X1_shut
set_option maxRecDepth 20000 in
theorem ggL_law_X0_enter : GoodIn wsL_law wsX0_enter := goodIn_r _ [235, 54, 26, 19, 132, 133, 2, 134, 135, 136, 137, 28, 29, 30, 31, 32, 33, 34, 35, 36, 37, 103, 104, 105, 106, 17, 107, 78, 79, 80, 81, 82, 83, 84, 85, 86, 25, 236, 237, 238, 239, 128, 129, 130, 131, 339, 340, 341, 342, 343, 344, 345, 346, 347, 348] (by decide +kernel) (by decide +kernel)
set_option maxRecDepth 20000 in
theorem gL_law_X0_enter : GoodIn wsL_law (wsV RL 69 RX0 yX0_enter wsX0_enter) := goodIn_app (goodIn_of _ (by decide +kernel)) ggL_law_X0_enter
set_option maxRecDepth 20000 in
theorem ggL_law_X1_enter : GoodIn wsL_law wsX1_enter := goodIn_r _ [243, 152, 62, 92, 112, 113, 114, 5, 115, 47, 116, 117, 118, 119, 46, 91, 120, 145, 146, 147, 148, 149, 150, 151, 153, 154, 155, 212, 213, 214, 215, 93, 94, 95, 96, 97, 98, 349, 350, 351, 352, 353, 354, 355, 356, 357, 358, 359, 360] (by decide +kernel) (by decide +kernel)
set_option maxRecDepth 20000 in
theorem gL_law_X1_enter : GoodIn wsL_law (wsV RL 72 RX1 yX1_enter wsX1_enter) := goodIn_app (goodIn_of _ (by decide +kernel)) ggL_law_X1_enter
set_option maxRecDepth 20000 in
theorem ggL_law_X0_pass : GoodIn wsL_law wsX0_pass := goodIn_r _ [247, 54, 26, 19, 196, 197, 198, 2, 199, 27, 103, 104, 105, 106, 17, 107, 78, 79, 80, 81, 82, 83, 84, 85, 86, 25, 200, 201, 202, 203, 248, 249, 250, 251, 23, 24, 252, 253, 254, 255, 128, 129, 130, 131, 132, 133, 134, 135, 136, 137, 28, 29, 30, 31, 32, 33, 34, 35, 36, 37, 256, 257, 258, 259, 236, 237, 238, 239, 339, 340, 341, 342, 343, 344, 345, 346, 347, 348] (by decide +kernel) (by decide +kernel)
set_option maxRecDepth 20000 in
theorem gL_law_X0_pass : GoodIn wsL_law (wsV RL 73 RX0 yX0_pass wsX0_pass) := goodIn_app (goodIn_of _ (by decide +kernel)) ggL_law_X0_pass
set_option maxRecDepth 20000 in
theorem ggL_law_X1_pass : GoodIn wsL_law wsX1_pass := goodIn_r _ [263, 62, 92, 49, 264, 265, 208, 209, 210, 5, 211, 112, 113, 114, 115, 47, 116, 117, 118, 119, 46, 91, 120, 266, 267, 268, 269, 145, 146, 147, 148, 149, 150, 151, 152, 153, 154, 155, 212, 213, 214, 215, 93, 94, 95, 96, 97, 98, 349, 350, 351, 352, 353, 354, 355, 356, 357, 358, 359, 360] (by decide +kernel) (by decide +kernel)
set_option maxRecDepth 20000 in
theorem gL_law_X1_pass : GoodIn wsL_law (wsV RL 76 RX1 yX1_pass wsX1_pass) := goodIn_app (goodIn_of _ (by decide +kernel)) ggL_law_X1_pass
set_option maxRecDepth 20000 in
theorem ggL_law_X0_survey : GoodIn wsL_law wsX0_survey := goodIn_r _ [273, 20, 21, 22, 38, 39, 40, 41, 339, 340, 341, 342, 343, 344, 345, 346, 347, 348] (by decide +kernel) (by decide +kernel)
set_option maxRecDepth 20000 in
theorem gL_law_X0_survey : GoodIn wsL_law (wsV RL 77 RX0 yX0_survey wsX0_survey) := goodIn_app (goodIn_of _ (by decide +kernel)) ggL_law_X0_survey
set_option maxRecDepth 20000 in
theorem ggL_law_X1_survey : GoodIn wsL_law wsX1_survey := goodIn_r _ [277, 278, 279, 280, 48, 349, 350, 351, 352, 353, 354, 355, 356, 357, 358, 359, 360] (by decide +kernel) (by decide +kernel)
set_option maxRecDepth 20000 in
theorem gL_law_X1_survey : GoodIn wsL_law (wsV RL 80 RX1 yX1_survey wsX1_survey) := goodIn_app (goodIn_of _ (by decide +kernel)) ggL_law_X1_survey
set_option maxRecDepth 20000 in
theorem ggL_law_X0_note : GoodIn wsL_law wsX0_note := goodIn_r _ [284, 54, 26, 20, 19, 55, 56, 2, 57, 103, 104, 105, 106, 17, 107, 78, 79, 80, 81, 82, 83, 84, 85, 86, 25, 285, 286, 287, 288, 22, 289, 290, 291, 292, 293, 21, 294, 295, 339, 340, 341, 342, 343, 344, 345, 346, 347, 348] (by decide +kernel) (by decide +kernel)
set_option maxRecDepth 20000 in
theorem gL_law_X0_note : GoodIn wsL_law (wsV RL 81 RX0 yX0_note wsX0_note) := goodIn_app (goodIn_of _ (by decide +kernel)) ggL_law_X0_note
set_option maxRecDepth 20000 in
theorem ggL_law_X1_note : GoodIn wsL_law wsX1_note := goodIn_r _ [299, 62, 92, 48, 63, 64, 5, 65, 112, 113, 114, 115, 47, 116, 117, 118, 119, 46, 91, 120, 300, 301, 302, 303, 280, 304, 305, 306, 307, 308, 278, 309, 279, 310, 93, 94, 95, 96, 97, 98, 349, 350, 351, 352, 353, 354, 355, 356, 357, 358, 359, 360] (by decide +kernel) (by decide +kernel)
set_option maxRecDepth 20000 in
theorem gL_law_X1_note : GoodIn wsL_law (wsV RL 84 RX1 yX1_note wsX1_note) := goodIn_app (goodIn_of _ (by decide +kernel)) ggL_law_X1_note
set_option maxRecDepth 20000 in
theorem ggL_law_X0_chart : GoodIn wsL_law wsX0_chart := goodIn_r _ [314, 26, 20, 285, 286, 287, 2, 288, 22, 289, 290, 291, 292, 293, 21, 294, 295, 83, 84, 85, 86, 25, 339, 340, 341, 342, 343, 344, 345, 346, 347, 348] (by decide +kernel) (by decide +kernel)
set_option maxRecDepth 20000 in
theorem gL_law_X0_chart : GoodIn wsL_law (wsV RL 85 RX0 yX0_chart wsX0_chart) := goodIn_app (goodIn_of _ (by decide +kernel)) ggL_law_X0_chart
set_option maxRecDepth 20000 in
theorem ggL_law_X1_chart : GoodIn wsL_law wsX1_chart := goodIn_r _ [318, 92, 48, 300, 301, 302, 5, 303, 280, 304, 305, 306, 307, 308, 278, 309, 279, 310, 93, 94, 95, 96, 97, 98, 349, 350, 351, 352, 353, 354, 355, 356, 357, 358, 359, 360] (by decide +kernel) (by decide +kernel)
set_option maxRecDepth 20000 in
theorem gL_law_X1_chart : GoodIn wsL_law (wsV RL 88 RX1 yX1_chart wsX1_chart) := goodIn_app (goodIn_of _ (by decide +kernel)) ggL_law_X1_chart
set_option maxRecDepth 20000 in
theorem ggL_law_X0_columns : GoodIn wsL_law wsX0_columns := goodIn_r _ [322, 26, 22, 290, 291, 292, 2, 293, 21, 294, 295, 83, 84, 85, 86, 25, 339, 340, 341, 342, 343, 344, 345, 346, 347, 348] (by decide +kernel) (by decide +kernel)
set_option maxRecDepth 20000 in
theorem gL_law_X0_columns : GoodIn wsL_law (wsV RL 89 RX0 yX0_columns wsX0_columns) := goodIn_app (goodIn_of _ (by decide +kernel)) ggL_law_X0_columns
set_option maxRecDepth 20000 in
theorem ggL_law_X1_columns : GoodIn wsL_law wsX1_columns := goodIn_r _ [326, 92, 280, 305, 306, 307, 5, 308, 278, 309, 279, 310, 93, 94, 95, 96, 97, 98, 349, 350, 351, 352, 353, 354, 355, 356, 357, 358, 359, 360] (by decide +kernel) (by decide +kernel)
set_option maxRecDepth 20000 in
theorem gL_law_X1_columns : GoodIn wsL_law (wsV RL 92 RX1 yX1_columns wsX1_columns) := goodIn_app (goodIn_of _ (by decide +kernel)) ggL_law_X1_columns
set_option maxRecDepth 20000 in
theorem ggL_law_X0_look : GoodIn wsL_law wsX0_look := goodIn_r _ [330, 27, 23, 24, 25, 26, 54, 331, 332, 333, 2, 334, 17, 339, 340, 341, 342, 343, 344, 345, 346, 347, 348] (by decide +kernel) (by decide +kernel)
set_option maxRecDepth 20000 in
theorem gL_law_X0_look : GoodIn wsL_law (wsV RL 93 RX0 yX0_look wsX0_look) := goodIn_app (goodIn_of _ (by decide +kernel)) ggL_law_X0_look
set_option maxRecDepth 20000 in
theorem ggL_law_X1_look : GoodIn wsL_law wsX1_look := goodIn_r _ [338, 46, 49, 264, 265, 97, 98, 62, 349, 350, 351, 352, 353, 354, 355, 356, 357, 358, 359, 360] (by decide +kernel) (by decide +kernel)
set_option maxRecDepth 20000 in
theorem gL_law_X1_look : GoodIn wsL_law (wsV RL 96 RX1 yX1_look wsX1_look) := goodIn_app (goodIn_of _ (by decide +kernel)) ggL_law_X1_look
theorem dL_law_0 : decode cL_law 0 = .ok (.new 7, 3) := by decide +kernel
theorem dL_law_3 : decode cL_law 3 = .ok (.dup, 1) := by decide +kernel
theorem dL_law_4 : decode cL_law 4 = .ok (.aload_n 0, 1) := by decide +kernel
theorem dL_law_5 : decode cL_law 5 = .ok (.iconst 0, 1) := by decide +kernel
theorem dL_law_6 : decode cL_law 6 = .ok (.invokestatic 9, 3) := by decide +kernel
theorem dL_law_9 : decode cL_law 9 = .ok (.invokespecial 15, 3) := by decide +kernel
theorem dL_law_12 : decode cL_law 12 = .ok (.astore_n 1, 1) := by decide +kernel
theorem dL_law_13 : decode cL_law 13 = .ok (.new 18, 3) := by decide +kernel
theorem dL_law_16 : decode cL_law 16 = .ok (.dup, 1) := by decide +kernel
theorem dL_law_17 : decode cL_law 17 = .ok (.aload_n 0, 1) := by decide +kernel
theorem dL_law_18 : decode cL_law 18 = .ok (.iconst 0, 1) := by decide +kernel
theorem dL_law_19 : decode cL_law 19 = .ok (.invokestatic 9, 3) := by decide +kernel
theorem dL_law_22 : decode cL_law 22 = .ok (.invokespecial 20, 3) := by decide +kernel
theorem dL_law_25 : decode cL_law 25 = .ok (.astore_n 2, 1) := by decide +kernel
theorem dL_law_26 : decode cL_law 26 = .ok (.iconst 1, 1) := by decide +kernel
theorem dL_law_27 : decode cL_law 27 = .ok (.istore_n 3, 1) := by decide +kernel
theorem dL_law_28 : decode cL_law 28 = .ok (.iload_n 3, 1) := by decide +kernel
theorem dL_law_29 : decode cL_law 29 = .ok (.aload_n 0, 1) := by decide +kernel
theorem dL_law_30 : decode cL_law 30 = .ok (.arraylength, 1) := by decide +kernel
theorem dL_law_31 : decode cL_law 31 = .ok (.iconst 5, 1) := by decide +kernel
theorem dL_law_32 : decode cL_law 32 = .ok (.isub, 1) := by decide +kernel
theorem dL_law_33 : decode cL_law 33 = .ok (.if_icmp .gt 665, 3) := by decide +kernel
theorem dL_law_36 : decode cL_law 36 = .ok (.aload_n 0, 1) := by decide +kernel
theorem dL_law_37 : decode cL_law 37 = .ok (.iload_n 3, 1) := by decide +kernel
theorem dL_law_38 : decode cL_law 38 = .ok (.iaload, 1) := by decide +kernel
theorem dL_law_39 : decode cL_law 39 = .ok (.bipush 31, 2) := by decide +kernel
theorem dL_law_41 : decode cL_law 41 = .ok (.iand, 1) := by decide +kernel
theorem dL_law_42 : decode cL_law 42 = .ok (.tableswitch 650 0 17 #[86, 119, 142, 165, 198, 241, 294, 317, 350, 383, 406, 429, 462, 485, 518, 571, 604, 627], 86) := by decide +kernel
theorem dL_law_128 : decode cL_law 128 = .ok (.aload_n 1, 1) := by decide +kernel
theorem dL_law_129 : decode cL_law 129 = .ok (.aload_n 0, 1) := by decide +kernel
theorem dL_law_130 : decode cL_law 130 = .ok (.iload_n 3, 1) := by decide +kernel
theorem dL_law_131 : decode cL_law 131 = .ok (.iconst 1, 1) := by decide +kernel
theorem dL_law_132 : decode cL_law 132 = .ok (.iadd, 1) := by decide +kernel
theorem dL_law_133 : decode cL_law 133 = .ok (.iaload, 1) := by decide +kernel
theorem dL_law_134 : decode cL_law 134 = .ok (.aload_n 0, 1) := by decide +kernel
theorem dL_law_135 : decode cL_law 135 = .ok (.iload_n 3, 1) := by decide +kernel
theorem dL_law_136 : decode cL_law 136 = .ok (.iconst 2, 1) := by decide +kernel
theorem dL_law_137 : decode cL_law 137 = .ok (.iadd, 1) := by decide +kernel
theorem dL_law_138 : decode cL_law 138 = .ok (.iaload, 1) := by decide +kernel
theorem dL_law_139 : decode cL_law 139 = .ok (.invokevirtual 21, 3) := by decide +kernel
theorem dL_law_142 : decode cL_law 142 = .ok (.aload_n 2, 1) := by decide +kernel
theorem dL_law_143 : decode cL_law 143 = .ok (.aload_n 0, 1) := by decide +kernel
theorem dL_law_144 : decode cL_law 144 = .ok (.iload_n 3, 1) := by decide +kernel
theorem dL_law_145 : decode cL_law 145 = .ok (.iconst 1, 1) := by decide +kernel
theorem dL_law_146 : decode cL_law 146 = .ok (.iadd, 1) := by decide +kernel
theorem dL_law_147 : decode cL_law 147 = .ok (.iaload, 1) := by decide +kernel
theorem dL_law_148 : decode cL_law 148 = .ok (.aload_n 0, 1) := by decide +kernel
theorem dL_law_149 : decode cL_law 149 = .ok (.iload_n 3, 1) := by decide +kernel
theorem dL_law_150 : decode cL_law 150 = .ok (.iconst 2, 1) := by decide +kernel
theorem dL_law_151 : decode cL_law 151 = .ok (.iadd, 1) := by decide +kernel
theorem dL_law_152 : decode cL_law 152 = .ok (.iaload, 1) := by decide +kernel
theorem dL_law_153 : decode cL_law 153 = .ok (.invokevirtual 25, 3) := by decide +kernel
theorem dL_law_156 : decode cL_law 156 = .ok (.if_icmp .eq 536, 3) := by decide +kernel
theorem dL_law_159 : decode cL_law 159 = .ok (.iconst 0, 1) := by decide +kernel
theorem dL_law_160 : decode cL_law 160 = .ok (.ireturn, 1) := by decide +kernel
theorem dL_law_161 : decode cL_law 161 = .ok (.aload_n 1, 1) := by decide +kernel
theorem dL_law_162 : decode cL_law 162 = .ok (.aload_n 0, 1) := by decide +kernel
theorem dL_law_163 : decode cL_law 163 = .ok (.iload_n 3, 1) := by decide +kernel
theorem dL_law_164 : decode cL_law 164 = .ok (.iconst 1, 1) := by decide +kernel
theorem dL_law_165 : decode cL_law 165 = .ok (.iadd, 1) := by decide +kernel
theorem dL_law_166 : decode cL_law 166 = .ok (.iaload, 1) := by decide +kernel
theorem dL_law_167 : decode cL_law 167 = .ok (.invokevirtual 26, 3) := by decide +kernel
theorem dL_law_170 : decode cL_law 170 = .ok (.aload_n 2, 1) := by decide +kernel
theorem dL_law_171 : decode cL_law 171 = .ok (.aload_n 0, 1) := by decide +kernel
theorem dL_law_172 : decode cL_law 172 = .ok (.iload_n 3, 1) := by decide +kernel
theorem dL_law_173 : decode cL_law 173 = .ok (.iconst 1, 1) := by decide +kernel
theorem dL_law_174 : decode cL_law 174 = .ok (.iadd, 1) := by decide +kernel
theorem dL_law_175 : decode cL_law 175 = .ok (.iaload, 1) := by decide +kernel
theorem dL_law_176 : decode cL_law 176 = .ok (.invokevirtual 30, 3) := by decide +kernel
theorem dL_law_179 : decode cL_law 179 = .ok (.if_icmp .eq 513, 3) := by decide +kernel
theorem dL_law_182 : decode cL_law 182 = .ok (.iconst 0, 1) := by decide +kernel
theorem dL_law_183 : decode cL_law 183 = .ok (.ireturn, 1) := by decide +kernel
theorem dL_law_184 : decode cL_law 184 = .ok (.aload_n 1, 1) := by decide +kernel
theorem dL_law_185 : decode cL_law 185 = .ok (.aload_n 0, 1) := by decide +kernel
theorem dL_law_186 : decode cL_law 186 = .ok (.iload_n 3, 1) := by decide +kernel
theorem dL_law_187 : decode cL_law 187 = .ok (.iconst 1, 1) := by decide +kernel
theorem dL_law_188 : decode cL_law 188 = .ok (.iadd, 1) := by decide +kernel
theorem dL_law_189 : decode cL_law 189 = .ok (.iaload, 1) := by decide +kernel
theorem dL_law_190 : decode cL_law 190 = .ok (.invokevirtual 31, 3) := by decide +kernel
theorem dL_law_193 : decode cL_law 193 = .ok (.aload_n 2, 1) := by decide +kernel
theorem dL_law_194 : decode cL_law 194 = .ok (.aload_n 0, 1) := by decide +kernel
theorem dL_law_195 : decode cL_law 195 = .ok (.iload_n 3, 1) := by decide +kernel
theorem dL_law_196 : decode cL_law 196 = .ok (.iconst 1, 1) := by decide +kernel
theorem dL_law_197 : decode cL_law 197 = .ok (.iadd, 1) := by decide +kernel
theorem dL_law_198 : decode cL_law 198 = .ok (.iaload, 1) := by decide +kernel
theorem dL_law_199 : decode cL_law 199 = .ok (.invokevirtual 34, 3) := by decide +kernel
theorem dL_law_202 : decode cL_law 202 = .ok (.if_icmp .eq 490, 3) := by decide +kernel
theorem dL_law_205 : decode cL_law 205 = .ok (.iconst 0, 1) := by decide +kernel
theorem dL_law_206 : decode cL_law 206 = .ok (.ireturn, 1) := by decide +kernel
theorem dL_law_207 : decode cL_law 207 = .ok (.aload_n 1, 1) := by decide +kernel
theorem dL_law_208 : decode cL_law 208 = .ok (.aload_n 0, 1) := by decide +kernel
theorem dL_law_209 : decode cL_law 209 = .ok (.iload_n 3, 1) := by decide +kernel
theorem dL_law_210 : decode cL_law 210 = .ok (.iconst 1, 1) := by decide +kernel
theorem dL_law_211 : decode cL_law 211 = .ok (.iadd, 1) := by decide +kernel
theorem dL_law_212 : decode cL_law 212 = .ok (.iaload, 1) := by decide +kernel
theorem dL_law_213 : decode cL_law 213 = .ok (.aload_n 0, 1) := by decide +kernel
theorem dL_law_214 : decode cL_law 214 = .ok (.iload_n 3, 1) := by decide +kernel
theorem dL_law_215 : decode cL_law 215 = .ok (.iconst 2, 1) := by decide +kernel
theorem dL_law_216 : decode cL_law 216 = .ok (.iadd, 1) := by decide +kernel
theorem dL_law_217 : decode cL_law 217 = .ok (.iaload, 1) := by decide +kernel
theorem dL_law_218 : decode cL_law 218 = .ok (.invokevirtual 35, 3) := by decide +kernel
theorem dL_law_221 : decode cL_law 221 = .ok (.aload_n 2, 1) := by decide +kernel
theorem dL_law_222 : decode cL_law 222 = .ok (.aload_n 0, 1) := by decide +kernel
theorem dL_law_223 : decode cL_law 223 = .ok (.iload_n 3, 1) := by decide +kernel
theorem dL_law_224 : decode cL_law 224 = .ok (.iconst 1, 1) := by decide +kernel
theorem dL_law_225 : decode cL_law 225 = .ok (.iadd, 1) := by decide +kernel
theorem dL_law_226 : decode cL_law 226 = .ok (.iaload, 1) := by decide +kernel
theorem dL_law_227 : decode cL_law 227 = .ok (.aload_n 0, 1) := by decide +kernel
theorem dL_law_228 : decode cL_law 228 = .ok (.iload_n 3, 1) := by decide +kernel
theorem dL_law_229 : decode cL_law 229 = .ok (.iconst 2, 1) := by decide +kernel
theorem dL_law_230 : decode cL_law 230 = .ok (.iadd, 1) := by decide +kernel
theorem dL_law_231 : decode cL_law 231 = .ok (.iaload, 1) := by decide +kernel
theorem dL_law_232 : decode cL_law 232 = .ok (.invokevirtual 38, 3) := by decide +kernel
theorem dL_law_235 : decode cL_law 235 = .ok (.if_icmp .eq 457, 3) := by decide +kernel
theorem dL_law_238 : decode cL_law 238 = .ok (.iconst 0, 1) := by decide +kernel
theorem dL_law_239 : decode cL_law 239 = .ok (.ireturn, 1) := by decide +kernel
theorem dL_law_240 : decode cL_law 240 = .ok (.aload_n 1, 1) := by decide +kernel
theorem dL_law_241 : decode cL_law 241 = .ok (.aload_n 0, 1) := by decide +kernel
theorem dL_law_242 : decode cL_law 242 = .ok (.iload_n 3, 1) := by decide +kernel
end
section
theorem dL_law_243 : decode cL_law 243 = .ok (.iconst 1, 1) := by decide +kernel
theorem dL_law_244 : decode cL_law 244 = .ok (.iadd, 1) := by decide +kernel
theorem dL_law_245 : decode cL_law 245 = .ok (.iaload, 1) := by decide +kernel
theorem dL_law_246 : decode cL_law 246 = .ok (.aload_n 0, 1) := by decide +kernel
theorem dL_law_247 : decode cL_law 247 = .ok (.iload_n 3, 1) := by decide +kernel
theorem dL_law_248 : decode cL_law 248 = .ok (.iconst 2, 1) := by decide +kernel
theorem dL_law_249 : decode cL_law 249 = .ok (.iadd, 1) := by decide +kernel
theorem dL_law_250 : decode cL_law 250 = .ok (.iaload, 1) := by decide +kernel
theorem dL_law_251 : decode cL_law 251 = .ok (.aload_n 0, 1) := by decide +kernel
theorem dL_law_252 : decode cL_law 252 = .ok (.iload_n 3, 1) := by decide +kernel
theorem dL_law_253 : decode cL_law 253 = .ok (.iconst 3, 1) := by decide +kernel
theorem dL_law_254 : decode cL_law 254 = .ok (.iadd, 1) := by decide +kernel
theorem dL_law_255 : decode cL_law 255 = .ok (.iaload, 1) := by decide +kernel
theorem dL_law_256 : decode cL_law 256 = .ok (.invokevirtual 39, 3) := by decide +kernel
theorem dL_law_259 : decode cL_law 259 = .ok (.aload_n 2, 1) := by decide +kernel
theorem dL_law_260 : decode cL_law 260 = .ok (.aload_n 0, 1) := by decide +kernel
theorem dL_law_261 : decode cL_law 261 = .ok (.iload_n 3, 1) := by decide +kernel
theorem dL_law_262 : decode cL_law 262 = .ok (.iconst 1, 1) := by decide +kernel
theorem dL_law_263 : decode cL_law 263 = .ok (.iadd, 1) := by decide +kernel
theorem dL_law_264 : decode cL_law 264 = .ok (.iaload, 1) := by decide +kernel
theorem dL_law_265 : decode cL_law 265 = .ok (.aload_n 0, 1) := by decide +kernel
theorem dL_law_266 : decode cL_law 266 = .ok (.iload_n 3, 1) := by decide +kernel
theorem dL_law_267 : decode cL_law 267 = .ok (.iconst 2, 1) := by decide +kernel
theorem dL_law_268 : decode cL_law 268 = .ok (.iadd, 1) := by decide +kernel
theorem dL_law_269 : decode cL_law 269 = .ok (.iaload, 1) := by decide +kernel
theorem dL_law_270 : decode cL_law 270 = .ok (.aload_n 0, 1) := by decide +kernel
theorem dL_law_271 : decode cL_law 271 = .ok (.iload_n 3, 1) := by decide +kernel
theorem dL_law_272 : decode cL_law 272 = .ok (.iconst 3, 1) := by decide +kernel
theorem dL_law_273 : decode cL_law 273 = .ok (.iadd, 1) := by decide +kernel
theorem dL_law_274 : decode cL_law 274 = .ok (.iaload, 1) := by decide +kernel
theorem dL_law_275 : decode cL_law 275 = .ok (.invokevirtual 43, 3) := by decide +kernel
theorem dL_law_278 : decode cL_law 278 = .ok (.if_icmp .eq 414, 3) := by decide +kernel
theorem dL_law_281 : decode cL_law 281 = .ok (.iconst 0, 1) := by decide +kernel
theorem dL_law_282 : decode cL_law 282 = .ok (.ireturn, 1) := by decide +kernel
theorem dL_law_283 : decode cL_law 283 = .ok (.aload_n 1, 1) := by decide +kernel
theorem dL_law_284 : decode cL_law 284 = .ok (.aload_n 0, 1) := by decide +kernel
theorem dL_law_285 : decode cL_law 285 = .ok (.iload_n 3, 1) := by decide +kernel
theorem dL_law_286 : decode cL_law 286 = .ok (.iconst 1, 1) := by decide +kernel
theorem dL_law_287 : decode cL_law 287 = .ok (.iadd, 1) := by decide +kernel
theorem dL_law_288 : decode cL_law 288 = .ok (.iaload, 1) := by decide +kernel
theorem dL_law_289 : decode cL_law 289 = .ok (.aload_n 0, 1) := by decide +kernel
theorem dL_law_290 : decode cL_law 290 = .ok (.iload_n 3, 1) := by decide +kernel
theorem dL_law_291 : decode cL_law 291 = .ok (.iconst 2, 1) := by decide +kernel
theorem dL_law_292 : decode cL_law 292 = .ok (.iadd, 1) := by decide +kernel
theorem dL_law_293 : decode cL_law 293 = .ok (.iaload, 1) := by decide +kernel
theorem dL_law_294 : decode cL_law 294 = .ok (.aload_n 0, 1) := by decide +kernel
theorem dL_law_295 : decode cL_law 295 = .ok (.iload_n 3, 1) := by decide +kernel
theorem dL_law_296 : decode cL_law 296 = .ok (.iconst 3, 1) := by decide +kernel
theorem dL_law_297 : decode cL_law 297 = .ok (.iadd, 1) := by decide +kernel
theorem dL_law_298 : decode cL_law 298 = .ok (.iaload, 1) := by decide +kernel
theorem dL_law_299 : decode cL_law 299 = .ok (.aload_n 0, 1) := by decide +kernel
theorem dL_law_300 : decode cL_law 300 = .ok (.iload_n 3, 1) := by decide +kernel
theorem dL_law_301 : decode cL_law 301 = .ok (.iconst 4, 1) := by decide +kernel
theorem dL_law_302 : decode cL_law 302 = .ok (.iadd, 1) := by decide +kernel
theorem dL_law_303 : decode cL_law 303 = .ok (.iaload, 1) := by decide +kernel
theorem dL_law_304 : decode cL_law 304 = .ok (.invokevirtual 44, 3) := by decide +kernel
theorem dL_law_307 : decode cL_law 307 = .ok (.aload_n 2, 1) := by decide +kernel
theorem dL_law_308 : decode cL_law 308 = .ok (.aload_n 0, 1) := by decide +kernel
theorem dL_law_309 : decode cL_law 309 = .ok (.iload_n 3, 1) := by decide +kernel
theorem dL_law_310 : decode cL_law 310 = .ok (.iconst 1, 1) := by decide +kernel
theorem dL_law_311 : decode cL_law 311 = .ok (.iadd, 1) := by decide +kernel
theorem dL_law_312 : decode cL_law 312 = .ok (.iaload, 1) := by decide +kernel
theorem dL_law_313 : decode cL_law 313 = .ok (.aload_n 0, 1) := by decide +kernel
theorem dL_law_314 : decode cL_law 314 = .ok (.iload_n 3, 1) := by decide +kernel
theorem dL_law_315 : decode cL_law 315 = .ok (.iconst 2, 1) := by decide +kernel
theorem dL_law_316 : decode cL_law 316 = .ok (.iadd, 1) := by decide +kernel
theorem dL_law_317 : decode cL_law 317 = .ok (.iaload, 1) := by decide +kernel
theorem dL_law_318 : decode cL_law 318 = .ok (.aload_n 0, 1) := by decide +kernel
theorem dL_law_319 : decode cL_law 319 = .ok (.iload_n 3, 1) := by decide +kernel
theorem dL_law_320 : decode cL_law 320 = .ok (.iconst 3, 1) := by decide +kernel
theorem dL_law_321 : decode cL_law 321 = .ok (.iadd, 1) := by decide +kernel
theorem dL_law_322 : decode cL_law 322 = .ok (.iaload, 1) := by decide +kernel
theorem dL_law_323 : decode cL_law 323 = .ok (.aload_n 0, 1) := by decide +kernel
theorem dL_law_324 : decode cL_law 324 = .ok (.iload_n 3, 1) := by decide +kernel
theorem dL_law_325 : decode cL_law 325 = .ok (.iconst 4, 1) := by decide +kernel
theorem dL_law_326 : decode cL_law 326 = .ok (.iadd, 1) := by decide +kernel
theorem dL_law_327 : decode cL_law 327 = .ok (.iaload, 1) := by decide +kernel
theorem dL_law_328 : decode cL_law 328 = .ok (.invokevirtual 48, 3) := by decide +kernel
theorem dL_law_331 : decode cL_law 331 = .ok (.if_icmp .eq 361, 3) := by decide +kernel
theorem dL_law_334 : decode cL_law 334 = .ok (.iconst 0, 1) := by decide +kernel
theorem dL_law_335 : decode cL_law 335 = .ok (.ireturn, 1) := by decide +kernel
theorem dL_law_336 : decode cL_law 336 = .ok (.aload_n 1, 1) := by decide +kernel
theorem dL_law_337 : decode cL_law 337 = .ok (.aload_n 0, 1) := by decide +kernel
theorem dL_law_338 : decode cL_law 338 = .ok (.iload_n 3, 1) := by decide +kernel
theorem dL_law_339 : decode cL_law 339 = .ok (.iconst 1, 1) := by decide +kernel
theorem dL_law_340 : decode cL_law 340 = .ok (.iadd, 1) := by decide +kernel
theorem dL_law_341 : decode cL_law 341 = .ok (.iaload, 1) := by decide +kernel
theorem dL_law_342 : decode cL_law 342 = .ok (.invokevirtual 49, 3) := by decide +kernel
theorem dL_law_345 : decode cL_law 345 = .ok (.aload_n 2, 1) := by decide +kernel
theorem dL_law_346 : decode cL_law 346 = .ok (.aload_n 0, 1) := by decide +kernel
theorem dL_law_347 : decode cL_law 347 = .ok (.iload_n 3, 1) := by decide +kernel
theorem dL_law_348 : decode cL_law 348 = .ok (.iconst 1, 1) := by decide +kernel
theorem dL_law_349 : decode cL_law 349 = .ok (.iadd, 1) := by decide +kernel
theorem dL_law_350 : decode cL_law 350 = .ok (.iaload, 1) := by decide +kernel
theorem dL_law_351 : decode cL_law 351 = .ok (.invokevirtual 52, 3) := by decide +kernel
theorem dL_law_354 : decode cL_law 354 = .ok (.if_icmp .eq 338, 3) := by decide +kernel
theorem dL_law_357 : decode cL_law 357 = .ok (.iconst 0, 1) := by decide +kernel
theorem dL_law_358 : decode cL_law 358 = .ok (.ireturn, 1) := by decide +kernel
theorem dL_law_359 : decode cL_law 359 = .ok (.aload_n 1, 1) := by decide +kernel
theorem dL_law_360 : decode cL_law 360 = .ok (.aload_n 0, 1) := by decide +kernel
theorem dL_law_361 : decode cL_law 361 = .ok (.iload_n 3, 1) := by decide +kernel
theorem dL_law_362 : decode cL_law 362 = .ok (.iconst 1, 1) := by decide +kernel
theorem dL_law_363 : decode cL_law 363 = .ok (.iadd, 1) := by decide +kernel
theorem dL_law_364 : decode cL_law 364 = .ok (.iaload, 1) := by decide +kernel
theorem dL_law_365 : decode cL_law 365 = .ok (.aload_n 0, 1) := by decide +kernel
theorem dL_law_366 : decode cL_law 366 = .ok (.iload_n 3, 1) := by decide +kernel
theorem dL_law_367 : decode cL_law 367 = .ok (.iconst 2, 1) := by decide +kernel
theorem dL_law_368 : decode cL_law 368 = .ok (.iadd, 1) := by decide +kernel
theorem dL_law_369 : decode cL_law 369 = .ok (.iaload, 1) := by decide +kernel
theorem dL_law_370 : decode cL_law 370 = .ok (.invokevirtual 53, 3) := by decide +kernel
theorem dL_law_373 : decode cL_law 373 = .ok (.aload_n 2, 1) := by decide +kernel
theorem dL_law_374 : decode cL_law 374 = .ok (.aload_n 0, 1) := by decide +kernel
theorem dL_law_375 : decode cL_law 375 = .ok (.iload_n 3, 1) := by decide +kernel
theorem dL_law_376 : decode cL_law 376 = .ok (.iconst 1, 1) := by decide +kernel
theorem dL_law_377 : decode cL_law 377 = .ok (.iadd, 1) := by decide +kernel
theorem dL_law_378 : decode cL_law 378 = .ok (.iaload, 1) := by decide +kernel
theorem dL_law_379 : decode cL_law 379 = .ok (.aload_n 0, 1) := by decide +kernel
theorem dL_law_380 : decode cL_law 380 = .ok (.iload_n 3, 1) := by decide +kernel
theorem dL_law_381 : decode cL_law 381 = .ok (.iconst 2, 1) := by decide +kernel
theorem dL_law_382 : decode cL_law 382 = .ok (.iadd, 1) := by decide +kernel
theorem dL_law_383 : decode cL_law 383 = .ok (.iaload, 1) := by decide +kernel
theorem dL_law_384 : decode cL_law 384 = .ok (.invokevirtual 56, 3) := by decide +kernel
theorem dL_law_387 : decode cL_law 387 = .ok (.if_icmp .eq 305, 3) := by decide +kernel
theorem dL_law_390 : decode cL_law 390 = .ok (.iconst 0, 1) := by decide +kernel
theorem dL_law_391 : decode cL_law 391 = .ok (.ireturn, 1) := by decide +kernel
theorem dL_law_392 : decode cL_law 392 = .ok (.aload_n 1, 1) := by decide +kernel
theorem dL_law_393 : decode cL_law 393 = .ok (.aload_n 0, 1) := by decide +kernel
theorem dL_law_394 : decode cL_law 394 = .ok (.iload_n 3, 1) := by decide +kernel
theorem dL_law_395 : decode cL_law 395 = .ok (.iconst 1, 1) := by decide +kernel
theorem dL_law_396 : decode cL_law 396 = .ok (.iadd, 1) := by decide +kernel
theorem dL_law_397 : decode cL_law 397 = .ok (.iaload, 1) := by decide +kernel
theorem dL_law_398 : decode cL_law 398 = .ok (.aload_n 0, 1) := by decide +kernel
theorem dL_law_399 : decode cL_law 399 = .ok (.iload_n 3, 1) := by decide +kernel
theorem dL_law_400 : decode cL_law 400 = .ok (.iconst 2, 1) := by decide +kernel
theorem dL_law_401 : decode cL_law 401 = .ok (.iadd, 1) := by decide +kernel
theorem dL_law_402 : decode cL_law 402 = .ok (.iaload, 1) := by decide +kernel
theorem dL_law_403 : decode cL_law 403 = .ok (.invokevirtual 57, 3) := by decide +kernel
theorem dL_law_406 : decode cL_law 406 = .ok (.aload_n 2, 1) := by decide +kernel
theorem dL_law_407 : decode cL_law 407 = .ok (.aload_n 0, 1) := by decide +kernel
theorem dL_law_408 : decode cL_law 408 = .ok (.iload_n 3, 1) := by decide +kernel
theorem dL_law_409 : decode cL_law 409 = .ok (.iconst 1, 1) := by decide +kernel
theorem dL_law_410 : decode cL_law 410 = .ok (.iadd, 1) := by decide +kernel
theorem dL_law_411 : decode cL_law 411 = .ok (.iaload, 1) := by decide +kernel
theorem dL_law_412 : decode cL_law 412 = .ok (.aload_n 0, 1) := by decide +kernel
theorem dL_law_413 : decode cL_law 413 = .ok (.iload_n 3, 1) := by decide +kernel
theorem dL_law_414 : decode cL_law 414 = .ok (.iconst 2, 1) := by decide +kernel
theorem dL_law_415 : decode cL_law 415 = .ok (.iadd, 1) := by decide +kernel
theorem dL_law_416 : decode cL_law 416 = .ok (.iaload, 1) := by decide +kernel
theorem dL_law_417 : decode cL_law 417 = .ok (.invokevirtual 60, 3) := by decide +kernel
theorem dL_law_420 : decode cL_law 420 = .ok (.if_icmp .eq 272, 3) := by decide +kernel
theorem dL_law_423 : decode cL_law 423 = .ok (.iconst 0, 1) := by decide +kernel
theorem dL_law_424 : decode cL_law 424 = .ok (.ireturn, 1) := by decide +kernel
theorem dL_law_425 : decode cL_law 425 = .ok (.aload_n 1, 1) := by decide +kernel
theorem dL_law_426 : decode cL_law 426 = .ok (.aload_n 0, 1) := by decide +kernel
theorem dL_law_427 : decode cL_law 427 = .ok (.iload_n 3, 1) := by decide +kernel
theorem dL_law_428 : decode cL_law 428 = .ok (.iconst 1, 1) := by decide +kernel
theorem dL_law_429 : decode cL_law 429 = .ok (.iadd, 1) := by decide +kernel
theorem dL_law_430 : decode cL_law 430 = .ok (.iaload, 1) := by decide +kernel
theorem dL_law_431 : decode cL_law 431 = .ok (.invokevirtual 61, 3) := by decide +kernel
theorem dL_law_434 : decode cL_law 434 = .ok (.aload_n 2, 1) := by decide +kernel
theorem dL_law_435 : decode cL_law 435 = .ok (.aload_n 0, 1) := by decide +kernel
theorem dL_law_436 : decode cL_law 436 = .ok (.iload_n 3, 1) := by decide +kernel
theorem dL_law_437 : decode cL_law 437 = .ok (.iconst 1, 1) := by decide +kernel
theorem dL_law_438 : decode cL_law 438 = .ok (.iadd, 1) := by decide +kernel
theorem dL_law_439 : decode cL_law 439 = .ok (.iaload, 1) := by decide +kernel
theorem dL_law_440 : decode cL_law 440 = .ok (.invokevirtual 64, 3) := by decide +kernel
theorem dL_law_443 : decode cL_law 443 = .ok (.if_icmp .eq 249, 3) := by decide +kernel
theorem dL_law_446 : decode cL_law 446 = .ok (.iconst 0, 1) := by decide +kernel
theorem dL_law_447 : decode cL_law 447 = .ok (.ireturn, 1) := by decide +kernel
theorem dL_law_448 : decode cL_law 448 = .ok (.aload_n 1, 1) := by decide +kernel
theorem dL_law_449 : decode cL_law 449 = .ok (.aload_n 0, 1) := by decide +kernel
theorem dL_law_450 : decode cL_law 450 = .ok (.iload_n 3, 1) := by decide +kernel
theorem dL_law_451 : decode cL_law 451 = .ok (.iconst 1, 1) := by decide +kernel
theorem dL_law_452 : decode cL_law 452 = .ok (.iadd, 1) := by decide +kernel
theorem dL_law_453 : decode cL_law 453 = .ok (.iaload, 1) := by decide +kernel
theorem dL_law_454 : decode cL_law 454 = .ok (.invokevirtual 65, 3) := by decide +kernel
theorem dL_law_457 : decode cL_law 457 = .ok (.aload_n 2, 1) := by decide +kernel
theorem dL_law_458 : decode cL_law 458 = .ok (.aload_n 0, 1) := by decide +kernel
theorem dL_law_459 : decode cL_law 459 = .ok (.iload_n 3, 1) := by decide +kernel
theorem dL_law_460 : decode cL_law 460 = .ok (.iconst 1, 1) := by decide +kernel
theorem dL_law_461 : decode cL_law 461 = .ok (.iadd, 1) := by decide +kernel
theorem dL_law_462 : decode cL_law 462 = .ok (.iaload, 1) := by decide +kernel
theorem dL_law_463 : decode cL_law 463 = .ok (.invokevirtual 68, 3) := by decide +kernel
theorem dL_law_466 : decode cL_law 466 = .ok (.if_icmp .eq 226, 3) := by decide +kernel
theorem dL_law_469 : decode cL_law 469 = .ok (.iconst 0, 1) := by decide +kernel
theorem dL_law_470 : decode cL_law 470 = .ok (.ireturn, 1) := by decide +kernel
theorem dL_law_471 : decode cL_law 471 = .ok (.aload_n 1, 1) := by decide +kernel
theorem dL_law_472 : decode cL_law 472 = .ok (.aload_n 0, 1) := by decide +kernel
theorem dL_law_473 : decode cL_law 473 = .ok (.iload_n 3, 1) := by decide +kernel
theorem dL_law_474 : decode cL_law 474 = .ok (.iconst 1, 1) := by decide +kernel
theorem dL_law_475 : decode cL_law 475 = .ok (.iadd, 1) := by decide +kernel
theorem dL_law_476 : decode cL_law 476 = .ok (.iaload, 1) := by decide +kernel
theorem dL_law_477 : decode cL_law 477 = .ok (.aload_n 0, 1) := by decide +kernel
theorem dL_law_478 : decode cL_law 478 = .ok (.iload_n 3, 1) := by decide +kernel
theorem dL_law_479 : decode cL_law 479 = .ok (.iconst 2, 1) := by decide +kernel
theorem dL_law_480 : decode cL_law 480 = .ok (.iadd, 1) := by decide +kernel
theorem dL_law_481 : decode cL_law 481 = .ok (.iaload, 1) := by decide +kernel
theorem dL_law_482 : decode cL_law 482 = .ok (.invokevirtual 69, 3) := by decide +kernel
theorem dL_law_485 : decode cL_law 485 = .ok (.aload_n 2, 1) := by decide +kernel
theorem dL_law_486 : decode cL_law 486 = .ok (.aload_n 0, 1) := by decide +kernel
theorem dL_law_487 : decode cL_law 487 = .ok (.iload_n 3, 1) := by decide +kernel
theorem dL_law_488 : decode cL_law 488 = .ok (.iconst 1, 1) := by decide +kernel
theorem dL_law_489 : decode cL_law 489 = .ok (.iadd, 1) := by decide +kernel
theorem dL_law_490 : decode cL_law 490 = .ok (.iaload, 1) := by decide +kernel
theorem dL_law_491 : decode cL_law 491 = .ok (.aload_n 0, 1) := by decide +kernel
theorem dL_law_492 : decode cL_law 492 = .ok (.iload_n 3, 1) := by decide +kernel
theorem dL_law_493 : decode cL_law 493 = .ok (.iconst 2, 1) := by decide +kernel
theorem dL_law_494 : decode cL_law 494 = .ok (.iadd, 1) := by decide +kernel
theorem dL_law_495 : decode cL_law 495 = .ok (.iaload, 1) := by decide +kernel
theorem dL_law_496 : decode cL_law 496 = .ok (.invokevirtual 72, 3) := by decide +kernel
theorem dL_law_499 : decode cL_law 499 = .ok (.if_icmp .eq 193, 3) := by decide +kernel
theorem dL_law_502 : decode cL_law 502 = .ok (.iconst 0, 1) := by decide +kernel
theorem dL_law_503 : decode cL_law 503 = .ok (.ireturn, 1) := by decide +kernel
theorem dL_law_504 : decode cL_law 504 = .ok (.aload_n 1, 1) := by decide +kernel
theorem dL_law_505 : decode cL_law 505 = .ok (.aload_n 0, 1) := by decide +kernel
theorem dL_law_506 : decode cL_law 506 = .ok (.iload_n 3, 1) := by decide +kernel
theorem dL_law_507 : decode cL_law 507 = .ok (.iconst 1, 1) := by decide +kernel
theorem dL_law_508 : decode cL_law 508 = .ok (.iadd, 1) := by decide +kernel
theorem dL_law_509 : decode cL_law 509 = .ok (.iaload, 1) := by decide +kernel
theorem dL_law_510 : decode cL_law 510 = .ok (.invokevirtual 73, 3) := by decide +kernel
theorem dL_law_513 : decode cL_law 513 = .ok (.aload_n 2, 1) := by decide +kernel
theorem dL_law_514 : decode cL_law 514 = .ok (.aload_n 0, 1) := by decide +kernel
theorem dL_law_515 : decode cL_law 515 = .ok (.iload_n 3, 1) := by decide +kernel
theorem dL_law_516 : decode cL_law 516 = .ok (.iconst 1, 1) := by decide +kernel
theorem dL_law_517 : decode cL_law 517 = .ok (.iadd, 1) := by decide +kernel
theorem dL_law_518 : decode cL_law 518 = .ok (.iaload, 1) := by decide +kernel
theorem dL_law_519 : decode cL_law 519 = .ok (.invokevirtual 76, 3) := by decide +kernel
theorem dL_law_522 : decode cL_law 522 = .ok (.if_icmp .eq 170, 3) := by decide +kernel
theorem dL_law_525 : decode cL_law 525 = .ok (.iconst 0, 1) := by decide +kernel
theorem dL_law_526 : decode cL_law 526 = .ok (.ireturn, 1) := by decide +kernel
theorem dL_law_527 : decode cL_law 527 = .ok (.aload_n 1, 1) := by decide +kernel
theorem dL_law_528 : decode cL_law 528 = .ok (.aload_n 0, 1) := by decide +kernel
theorem dL_law_529 : decode cL_law 529 = .ok (.iload_n 3, 1) := by decide +kernel
theorem dL_law_530 : decode cL_law 530 = .ok (.iconst 1, 1) := by decide +kernel
theorem dL_law_531 : decode cL_law 531 = .ok (.iadd, 1) := by decide +kernel
theorem dL_law_532 : decode cL_law 532 = .ok (.iaload, 1) := by decide +kernel
theorem dL_law_533 : decode cL_law 533 = .ok (.aload_n 0, 1) := by decide +kernel
theorem dL_law_534 : decode cL_law 534 = .ok (.iload_n 3, 1) := by decide +kernel
theorem dL_law_535 : decode cL_law 535 = .ok (.iconst 2, 1) := by decide +kernel
theorem dL_law_536 : decode cL_law 536 = .ok (.iadd, 1) := by decide +kernel
theorem dL_law_537 : decode cL_law 537 = .ok (.iaload, 1) := by decide +kernel
theorem dL_law_538 : decode cL_law 538 = .ok (.invokevirtual 77, 3) := by decide +kernel
theorem dL_law_541 : decode cL_law 541 = .ok (.aload_n 2, 1) := by decide +kernel
theorem dL_law_542 : decode cL_law 542 = .ok (.aload_n 0, 1) := by decide +kernel
theorem dL_law_543 : decode cL_law 543 = .ok (.iload_n 3, 1) := by decide +kernel
theorem dL_law_544 : decode cL_law 544 = .ok (.iconst 1, 1) := by decide +kernel
theorem dL_law_545 : decode cL_law 545 = .ok (.iadd, 1) := by decide +kernel
theorem dL_law_546 : decode cL_law 546 = .ok (.iaload, 1) := by decide +kernel
theorem dL_law_547 : decode cL_law 547 = .ok (.aload_n 0, 1) := by decide +kernel
theorem dL_law_548 : decode cL_law 548 = .ok (.iload_n 3, 1) := by decide +kernel
theorem dL_law_549 : decode cL_law 549 = .ok (.iconst 2, 1) := by decide +kernel
theorem dL_law_550 : decode cL_law 550 = .ok (.iadd, 1) := by decide +kernel
theorem dL_law_551 : decode cL_law 551 = .ok (.iaload, 1) := by decide +kernel
theorem dL_law_552 : decode cL_law 552 = .ok (.invokevirtual 80, 3) := by decide +kernel
theorem dL_law_555 : decode cL_law 555 = .ok (.if_icmp .eq 137, 3) := by decide +kernel
theorem dL_law_558 : decode cL_law 558 = .ok (.iconst 0, 1) := by decide +kernel
theorem dL_law_559 : decode cL_law 559 = .ok (.ireturn, 1) := by decide +kernel
theorem dL_law_560 : decode cL_law 560 = .ok (.aload_n 1, 1) := by decide +kernel
theorem dL_law_561 : decode cL_law 561 = .ok (.aload_n 0, 1) := by decide +kernel
theorem dL_law_562 : decode cL_law 562 = .ok (.iload_n 3, 1) := by decide +kernel
theorem dL_law_563 : decode cL_law 563 = .ok (.iconst 1, 1) := by decide +kernel
theorem dL_law_564 : decode cL_law 564 = .ok (.iadd, 1) := by decide +kernel
theorem dL_law_565 : decode cL_law 565 = .ok (.iaload, 1) := by decide +kernel
theorem dL_law_566 : decode cL_law 566 = .ok (.aload_n 0, 1) := by decide +kernel
theorem dL_law_567 : decode cL_law 567 = .ok (.iload_n 3, 1) := by decide +kernel
theorem dL_law_568 : decode cL_law 568 = .ok (.iconst 2, 1) := by decide +kernel
theorem dL_law_569 : decode cL_law 569 = .ok (.iadd, 1) := by decide +kernel
theorem dL_law_570 : decode cL_law 570 = .ok (.iaload, 1) := by decide +kernel
theorem dL_law_571 : decode cL_law 571 = .ok (.aload_n 0, 1) := by decide +kernel
theorem dL_law_572 : decode cL_law 572 = .ok (.iload_n 3, 1) := by decide +kernel
theorem dL_law_573 : decode cL_law 573 = .ok (.iconst 3, 1) := by decide +kernel
theorem dL_law_574 : decode cL_law 574 = .ok (.iadd, 1) := by decide +kernel
theorem dL_law_575 : decode cL_law 575 = .ok (.iaload, 1) := by decide +kernel
theorem dL_law_576 : decode cL_law 576 = .ok (.aload_n 0, 1) := by decide +kernel
theorem dL_law_577 : decode cL_law 577 = .ok (.iload_n 3, 1) := by decide +kernel
theorem dL_law_578 : decode cL_law 578 = .ok (.iconst 4, 1) := by decide +kernel
theorem dL_law_579 : decode cL_law 579 = .ok (.iadd, 1) := by decide +kernel
theorem dL_law_580 : decode cL_law 580 = .ok (.iaload, 1) := by decide +kernel
theorem dL_law_581 : decode cL_law 581 = .ok (.invokevirtual 81, 3) := by decide +kernel
theorem dL_law_584 : decode cL_law 584 = .ok (.aload_n 2, 1) := by decide +kernel
theorem dL_law_585 : decode cL_law 585 = .ok (.aload_n 0, 1) := by decide +kernel
theorem dL_law_586 : decode cL_law 586 = .ok (.iload_n 3, 1) := by decide +kernel
theorem dL_law_587 : decode cL_law 587 = .ok (.iconst 1, 1) := by decide +kernel
theorem dL_law_588 : decode cL_law 588 = .ok (.iadd, 1) := by decide +kernel
theorem dL_law_589 : decode cL_law 589 = .ok (.iaload, 1) := by decide +kernel
theorem dL_law_590 : decode cL_law 590 = .ok (.aload_n 0, 1) := by decide +kernel
theorem dL_law_591 : decode cL_law 591 = .ok (.iload_n 3, 1) := by decide +kernel
theorem dL_law_592 : decode cL_law 592 = .ok (.iconst 2, 1) := by decide +kernel
theorem dL_law_593 : decode cL_law 593 = .ok (.iadd, 1) := by decide +kernel
theorem dL_law_594 : decode cL_law 594 = .ok (.iaload, 1) := by decide +kernel
theorem dL_law_595 : decode cL_law 595 = .ok (.aload_n 0, 1) := by decide +kernel
theorem dL_law_596 : decode cL_law 596 = .ok (.iload_n 3, 1) := by decide +kernel
theorem dL_law_597 : decode cL_law 597 = .ok (.iconst 3, 1) := by decide +kernel
theorem dL_law_598 : decode cL_law 598 = .ok (.iadd, 1) := by decide +kernel
theorem dL_law_599 : decode cL_law 599 = .ok (.iaload, 1) := by decide +kernel
theorem dL_law_600 : decode cL_law 600 = .ok (.aload_n 0, 1) := by decide +kernel
theorem dL_law_601 : decode cL_law 601 = .ok (.iload_n 3, 1) := by decide +kernel
theorem dL_law_602 : decode cL_law 602 = .ok (.iconst 4, 1) := by decide +kernel
theorem dL_law_603 : decode cL_law 603 = .ok (.iadd, 1) := by decide +kernel
theorem dL_law_604 : decode cL_law 604 = .ok (.iaload, 1) := by decide +kernel
theorem dL_law_605 : decode cL_law 605 = .ok (.invokevirtual 84, 3) := by decide +kernel
theorem dL_law_608 : decode cL_law 608 = .ok (.if_icmp .eq 84, 3) := by decide +kernel
theorem dL_law_611 : decode cL_law 611 = .ok (.iconst 0, 1) := by decide +kernel
theorem dL_law_612 : decode cL_law 612 = .ok (.ireturn, 1) := by decide +kernel
theorem dL_law_613 : decode cL_law 613 = .ok (.aload_n 1, 1) := by decide +kernel
theorem dL_law_614 : decode cL_law 614 = .ok (.aload_n 0, 1) := by decide +kernel
theorem dL_law_615 : decode cL_law 615 = .ok (.iload_n 3, 1) := by decide +kernel
theorem dL_law_616 : decode cL_law 616 = .ok (.iconst 1, 1) := by decide +kernel
theorem dL_law_617 : decode cL_law 617 = .ok (.iadd, 1) := by decide +kernel
theorem dL_law_618 : decode cL_law 618 = .ok (.iaload, 1) := by decide +kernel
theorem dL_law_619 : decode cL_law 619 = .ok (.aload_n 0, 1) := by decide +kernel
theorem dL_law_620 : decode cL_law 620 = .ok (.iload_n 3, 1) := by decide +kernel
theorem dL_law_621 : decode cL_law 621 = .ok (.iconst 2, 1) := by decide +kernel
theorem dL_law_622 : decode cL_law 622 = .ok (.iadd, 1) := by decide +kernel
theorem dL_law_623 : decode cL_law 623 = .ok (.iaload, 1) := by decide +kernel
theorem dL_law_624 : decode cL_law 624 = .ok (.invokevirtual 85, 3) := by decide +kernel
theorem dL_law_627 : decode cL_law 627 = .ok (.aload_n 2, 1) := by decide +kernel
theorem dL_law_628 : decode cL_law 628 = .ok (.aload_n 0, 1) := by decide +kernel
theorem dL_law_629 : decode cL_law 629 = .ok (.iload_n 3, 1) := by decide +kernel
theorem dL_law_630 : decode cL_law 630 = .ok (.iconst 1, 1) := by decide +kernel
theorem dL_law_631 : decode cL_law 631 = .ok (.iadd, 1) := by decide +kernel
theorem dL_law_632 : decode cL_law 632 = .ok (.iaload, 1) := by decide +kernel
theorem dL_law_633 : decode cL_law 633 = .ok (.aload_n 0, 1) := by decide +kernel
theorem dL_law_634 : decode cL_law 634 = .ok (.iload_n 3, 1) := by decide +kernel
theorem dL_law_635 : decode cL_law 635 = .ok (.iconst 2, 1) := by decide +kernel
theorem dL_law_636 : decode cL_law 636 = .ok (.iadd, 1) := by decide +kernel
theorem dL_law_637 : decode cL_law 637 = .ok (.iaload, 1) := by decide +kernel
theorem dL_law_638 : decode cL_law 638 = .ok (.invokevirtual 88, 3) := by decide +kernel
theorem dL_law_641 : decode cL_law 641 = .ok (.if_icmp .eq 51, 3) := by decide +kernel
theorem dL_law_644 : decode cL_law 644 = .ok (.iconst 0, 1) := by decide +kernel
theorem dL_law_645 : decode cL_law 645 = .ok (.ireturn, 1) := by decide +kernel
theorem dL_law_646 : decode cL_law 646 = .ok (.aload_n 1, 1) := by decide +kernel
theorem dL_law_647 : decode cL_law 647 = .ok (.aload_n 0, 1) := by decide +kernel
theorem dL_law_648 : decode cL_law 648 = .ok (.iload_n 3, 1) := by decide +kernel
theorem dL_law_649 : decode cL_law 649 = .ok (.iconst 1, 1) := by decide +kernel
theorem dL_law_650 : decode cL_law 650 = .ok (.iadd, 1) := by decide +kernel
theorem dL_law_651 : decode cL_law 651 = .ok (.iaload, 1) := by decide +kernel
theorem dL_law_652 : decode cL_law 652 = .ok (.invokevirtual 89, 3) := by decide +kernel
theorem dL_law_655 : decode cL_law 655 = .ok (.aload_n 2, 1) := by decide +kernel
theorem dL_law_656 : decode cL_law 656 = .ok (.aload_n 0, 1) := by decide +kernel
theorem dL_law_657 : decode cL_law 657 = .ok (.iload_n 3, 1) := by decide +kernel
theorem dL_law_658 : decode cL_law 658 = .ok (.iconst 1, 1) := by decide +kernel
theorem dL_law_659 : decode cL_law 659 = .ok (.iadd, 1) := by decide +kernel
theorem dL_law_660 : decode cL_law 660 = .ok (.iaload, 1) := by decide +kernel
theorem dL_law_661 : decode cL_law 661 = .ok (.invokevirtual 92, 3) := by decide +kernel
theorem dL_law_664 : decode cL_law 664 = .ok (.if_icmp .eq 28, 3) := by decide +kernel
theorem dL_law_667 : decode cL_law 667 = .ok (.iconst 0, 1) := by decide +kernel
theorem dL_law_668 : decode cL_law 668 = .ok (.ireturn, 1) := by decide +kernel
theorem dL_law_669 : decode cL_law 669 = .ok (.aload_n 1, 1) := by decide +kernel
theorem dL_law_670 : decode cL_law 670 = .ok (.aload_n 0, 1) := by decide +kernel
theorem dL_law_671 : decode cL_law 671 = .ok (.iload_n 3, 1) := by decide +kernel
theorem dL_law_672 : decode cL_law 672 = .ok (.iconst 1, 1) := by decide +kernel
theorem dL_law_673 : decode cL_law 673 = .ok (.iadd, 1) := by decide +kernel
theorem dL_law_674 : decode cL_law 674 = .ok (.iaload, 1) := by decide +kernel
theorem dL_law_675 : decode cL_law 675 = .ok (.invokevirtual 93, 3) := by decide +kernel
theorem dL_law_678 : decode cL_law 678 = .ok (.aload_n 2, 1) := by decide +kernel
theorem dL_law_679 : decode cL_law 679 = .ok (.aload_n 0, 1) := by decide +kernel
theorem dL_law_680 : decode cL_law 680 = .ok (.iload_n 3, 1) := by decide +kernel
theorem dL_law_681 : decode cL_law 681 = .ok (.iconst 1, 1) := by decide +kernel
theorem dL_law_682 : decode cL_law 682 = .ok (.iadd, 1) := by decide +kernel
theorem dL_law_683 : decode cL_law 683 = .ok (.iaload, 1) := by decide +kernel
theorem dL_law_684 : decode cL_law 684 = .ok (.invokevirtual 96, 3) := by decide +kernel
theorem dL_law_687 : decode cL_law 687 = .ok (.if_icmp .eq 5, 3) := by decide +kernel
theorem dL_law_690 : decode cL_law 690 = .ok (.iconst 0, 1) := by decide +kernel
theorem dL_law_691 : decode cL_law 691 = .ok (.ireturn, 1) := by decide +kernel
theorem dL_law_692 : decode cL_law 692 = .ok (.iinc 3 5, 3) := by decide +kernel
theorem dL_law_695 : decode cL_law 695 = .ok (.goto (-667), 3) := by decide +kernel
theorem dL_law_698 : decode cL_law 698 = .ok (.iconst 1, 1) := by decide +kernel
theorem dL_law_699 : decode cL_law 699 = .ok (.ireturn, 1) := by decide +kernel
abbrev vwCl : List vw_C := [(RX0, TX0, 10), (RX1, TX1, 12)]
end
section
/-! the class' state (FlightBooks) and the reference's (FlightBooksModel) as values; the cells that hold them -/
abbrev XS : Type := Int32 × (Nat → Int32) × (Nat → Nat → Int32) × (Nat → Nat → Int32) × Int32 × Int32 × Int32 × Int32 × Int32 × Int32
abbrev xN (S : XS) : Int32 := S.1
abbrev xC (S : XS) : Nat → Int32 := S.2.1
abbrev xH (S : XS) : Nat → Nat → Int32 := S.2.2.1
abbrev xP (S : XS) : Nat → Nat → Int32 := S.2.2.2.1
abbrev xRc (S : XS) : Int32 := S.2.2.2.2.1
abbrev xCc (S : XS) : Int32 := S.2.2.2.2.2.1
abbrev xBo (S : XS) : Int32 := S.2.2.2.2.2.2.1
abbrev xEo (S : XS) : Int32 := S.2.2.2.2.2.2.2.1
abbrev xFc (S : XS) : Int32 := S.2.2.2.2.2.2.2.2.1
abbrev xLf (S : XS) : Int32 := S.2.2.2.2.2.2.2.2.2
abbrev xsC (S : XS) (v : Nat → Int32) : XS := (xN S, v, xH S, xP S, xRc S, xCc S, xBo S, xEo S, xFc S, xLf S)
abbrev xsH (S : XS) (v : Nat → Nat → Int32) : XS := (xN S, xC S, v, xP S, xRc S, xCc S, xBo S, xEo S, xFc S, xLf S)
abbrev xsP (S : XS) (v : Nat → Nat → Int32) : XS := (xN S, xC S, xH S, v, xRc S, xCc S, xBo S, xEo S, xFc S, xLf S)
abbrev xsRc (S : XS) (v : Int32) : XS := (xN S, xC S, xH S, xP S, v, xCc S, xBo S, xEo S, xFc S, xLf S)
abbrev xsCc (S : XS) (v : Int32) : XS := (xN S, xC S, xH S, xP S, xRc S, v, xBo S, xEo S, xFc S, xLf S)
abbrev xsBo (S : XS) (v : Int32) : XS := (xN S, xC S, xH S, xP S, xRc S, xCc S, v, xEo S, xFc S, xLf S)
abbrev xsEo (S : XS) (v : Int32) : XS := (xN S, xC S, xH S, xP S, xRc S, xCc S, xBo S, v, xFc S, xLf S)
abbrev xsFc (S : XS) (v : Int32) : XS := (xN S, xC S, xH S, xP S, xRc S, xCc S, xBo S, xEo S, v, xLf S)
abbrev xsLf (S : XS) (v : Int32) : XS := (xN S, xC S, xH S, xP S, xRc S, xCc S, xBo S, xEo S, xFc S, v)
/-- what a book's line is, and a place of the chart, by their numbers as the program has them -/
abbrev xh (S : XS) (b i : Int32) : Int32 := xH S b.toNatClampNeg i.toNatClampNeg
abbrev xp (S : XS) (b i : Int32) : Int32 := xP S b.toNatClampNeg i.toNatClampNeg
abbrev xc (S : XS) (b : Int32) : Int32 := xC S b.toNatClampNeg
abbrev xsh (S : XS) (b i v : Int32) : XS := xsH S (va_up (xH S) b.toNatClampNeg (upd (xH S b.toNatClampNeg) i.toNatClampNeg v))
abbrev xsp (S : XS) (b i v : Int32) : XS := xsP S (va_up (xP S) b.toNatClampNeg (upd (xP S b.toNatClampNeg) i.toNatClampNeg v))
abbrev xsc (S : XS) (b v : Int32) : XS := xsC S (upd (xC S) b.toNatClampNeg v)
/-- where its cells are: the object, counts, books, chart; rows of the books, rows of the chart; the array classes -/
abbrev XA : Type := Nat × Nat × Nat × Nat × (Nat → Nat) × (Nat → Nat) × ClassId × ClassId
abbrev xa (a : XA) : Nat := a.1
abbrev xac (a : XA) : Nat := a.2.1
abbrev xah (a : XA) : Nat := a.2.2.1
abbrev xap (a : XA) : Nat := a.2.2.2.1
abbrev xrh (a : XA) : Nat → Nat := a.2.2.2.2.1
abbrev xrp (a : XA) : Nat → Nat := a.2.2.2.2.2.1
abbrev xcI (a : XA) : ClassId := a.2.2.2.2.2.2.1
abbrev xcO (a : XA) : ClassId := a.2.2.2.2.2.2.2
abbrev xq (n : Nat) (r : Nat → Nat) : Nat → Option Nat := fun i => if i < n then some (r i) else none
abbrev xFs (a : XA) (S : XS) : List Value := [.int (xN S), .ref (xac a), .ref (xah a), .ref (xap a), .int (xRc S), .int (xCc S), .int (xBo S), .int (xEo S), .int (xFc S), .int (xLf S)]
def xRows (c : ClassId) (n : Nat) (r : Nat → Nat) (M : Nat → Nat → Int32) : va_W := (List.range n).map (fun i => (r i, .inl (c, 24, .inl (M i))))
abbrev xW (a : XA) (S : XS) : va_W := (xa a, .inr (0, xFs a S)) :: (xac a, .inl (xcI a, 5, .inl (xC S))) :: (xah a, .inl (xcO a, 5, .inr (.inr (.inr (.inr (xq 5 (xrh a))))))) :: (xap a, .inl (xcO a, 24, .inr (.inr (.inr (.inr (xq 24 (xrp a))))))) :: (xRows (xcI a) 5 (xrh a) (xH S) ++ xRows (xcI a) 24 (xrp a) (xP S))
abbrev xT (a : XA) : List (ClassId × FieldType) := [(xcI a, .int), (xcO a, .array .int)]
def xL (a : XA) : List Nat := xa a :: xac a :: xah a :: xap a :: ((List.range 5).map (xrh a) ++ (List.range 24).map (xrp a))
def xA (a : XA) : Nat → Prop := fun q => q ∈ xL a
/-- its addresses are apart -/
def xOk (a : XA) : Prop := ∀ (i j x : Nat), (xL a)[i]? = some x → (xL a)[j]? = some x → i = j
theorem xRows_get {c : ClassId} {n i : Nat} {r : Nat → Nat} {M : Nat → Nat → Int32} (h : i < n) : (xRows c n r M)[i]? = some (r i, .inl (c, 24, .inl (M i))) := by
  simp [xRows, h]
theorem xRows_len {c : ClassId} {n : Nat} {r : Nat → Nat} {M : Nat → Nat → Int32} : (xRows c n r M).length = n := by simp [xRows]
theorem xRows_set {c : ClassId} {n i : Nat} {r : Nat → Nat} {M : Nat → Nat → Int32} {f : Nat → Int32} : (xRows c n r M).set i (r i, .inl (c, 24, .inl f)) = xRows c n r (va_up M i f) := by
  apply List.ext_getElem?
  intro j
  by_cases hj : j < n
  · rw [xRows_get hj]
    by_cases e : j = i
    · subst e
      rw [List.getElem?_set_self (by rw [xRows_len]; exact hj), va_up_self]
    · rw [List.getElem?_set_ne (Ne.symm e), xRows_get hj, va_up_ne _ _ e]
  · rw [List.getElem?_eq_none (by rw [List.length_set, xRows_len]; omega), List.getElem?_eq_none (by rw [xRows_len]; omega)]
theorem xW_h {a : XA} {S : XS} {k : Nat} (h : k < 5) : (xW a S)[4 + k]? = some (xrh a k, .inl (xcI a, 24, .inl (xH S k))) := by
  rw [show 4 + k = k + 1 + 1 + 1 + 1 by omega]
  simp only [List.getElem?_cons_succ]
  rw [List.getElem?_append_left (by rw [xRows_len]; exact h), xRows_get h]
theorem xW_p {a : XA} {S : XS} {k : Nat} (h : k < 24) : (xW a S)[9 + k]? = some (xrp a k, .inl (xcI a, 24, .inl (xP S k))) := by
  rw [show 9 + k = (k + 5) + 1 + 1 + 1 + 1 by omega]
  simp only [List.getElem?_cons_succ]
  rw [List.getElem?_append_right (by rw [xRows_len]; omega), xRows_len, show k + 5 - 5 = k by omega, xRows_get h]
theorem xW_seth {a : XA} {S : XS} {k : Nat} {f : Nat → Int32} (h : k < 5) : (xW a S).set (4 + k) (xrh a k, .inl (xcI a, 24, .inl f)) = xW a (xsH S (va_up (xH S) k f)) := by
  rw [show 4 + k = k + 1 + 1 + 1 + 1 by omega]
  simp only [List.set_cons_succ]
  rw [List.set_append_left _ _ (by rw [xRows_len]; exact h), xRows_set]
theorem xW_setp {a : XA} {S : XS} {k : Nat} {f : Nat → Int32} : (xW a S).set (9 + k) (xrp a k, .inl (xcI a, 24, .inl f)) = xW a (xsP S (va_up (xP S) k f)) := by
  rw [show 9 + k = (k + 5) + 1 + 1 + 1 + 1 by omega]
  simp only [List.set_cons_succ]
  rw [List.set_append_right _ _ (by rw [xRows_len]; omega), xRows_len, show k + 5 - 5 = k by omega, xRows_set]
theorem xW_addr (a : XA) (S : XS) : (xW a S).map Prod.fst = xL a := by
  simp [xW, xL, xRows, Function.comp_def]
/-- the addresses are apart whatever is held -/
theorem xD {a : XA} (h : xOk a) (S : XS) : va_D (xA a) (xW a S) := by
  have e := xW_addr a S
  refine ⟨fun i j p q hp hq hpq => ?_, fun k q hk => ?_⟩
  · have h1 : (xL a)[i]? = some p.1 := by rw [← e, List.getElem?_map, hp]; rfl
    have h2 : (xL a)[j]? = some p.1 := by rw [← e, List.getElem?_map, hq, hpq]; rfl
    exact h i j _ h1 h2
  · show q.1 ∈ xL a
    rw [← e]
    exact List.mem_map.mpr ⟨q, List.mem_of_getElem? hk, rfl⟩
/-- the world of a method of the class -/
abbrev xB (D : va_G) (a : XA) (S : XS) (t : State) : Prop := va_P D vwCl (xW a S) t.heap ∧ va_K D vwCl (xT a) t
abbrev xQi (D : va_G) (a : XA) (F : Int32 × XS) : Array Value → State → Outcome → State → Prop := va_Qi (fun (r : Int32) (u : XS) => F = (r, u)) (xB D a) (xA a)
abbrev xQv (D : va_G) (a : XA) (F : XS) : Array Value → State → Outcome → State → Prop := va_Qv (fun (u : XS) => F = u) (xB D a) (xA a)
abbrev pQi (F : Int32) : Array Value → State → Outcome → State → Prop := va_Qi (fun (r : Int32) (_ : Unit) => F = r) (fun _ _ => True) (fun _ => False)
theorem xBlind {D : va_G} {a : XA} {S : XS} {av : List Value} : FrameBlind (va_Pc av (xB D a S)) := fun a U g mk q => by
  obtain ⟨q0, qP, qK⟩ := q
  exact ⟨q0, qP, va_K.moved (u := U) (U := U.calling g mk a) (Vm.Alike.refl U.vm) qK⟩
theorem xPreV {s : State} {H : Heap} {D : va_G} {a : XA} {S : XS} {As : List Value} (hK : va_K D vwCl (xT a) s) (hP : va_P D vwCl (xW a S) H) : PreV s H RX0 (xa a) (va_Pc (.ref (xa a) :: As) (xB D a S)) As :=
  ⟨xBlind, va_recv (q := (RX0, TX0, 10)) hK hP (ci := 0) (q0 := 0) rfl rfl, fun U hU hW => ⟨rfl, by rw [hU]; exact hP, va_K.moved hW.alike hK⟩⟩
theorem pPreS {s : State} {H : Heap} {As : List Value} : PreS s H (va_Pc As (fun _ => True)) As := ⟨fun _ _ _ _ q => q, fun _ _ _ => ⟨rfl, trivial⟩⟩
theorem vk_lt {i : Int32} {n : Nat} (h : vp_in i n) : i.toNatClampNeg < n := Nat.not_le.mp fun q => h (Or.inr q)
theorem P_kept {D : va_G} {cl : List vw_C} {ws : va_W} {H H1 : Heap} (hP : va_P D cl ws H) (hk : ∀ q : Nat, q < H.size → ¬ False → H1[q]? = H[q]?) : va_P D cl ws H1 := hP.kept (fun k q hq => hk q.1 ((hP k q hq).lt) id)
section XR
variable {p : Program} {l : Launch} {e : Env} {R : Room} {s : State} {m : MethodId} {args : Array Value} {below : List Frame} {meth : Method} {c : Code} {H : Heap} {locs : List Loc} {cells slots : Nat} {Q : State → Prop}
variable {cc : ByteArray} {pc : Nat} {ls : Array Slot} {rest : List Value} {D : va_G} {a : XA} {S : XS} {H0 : Heap} {Ts : List Cond}
theorem x_get (hexec : p.tables.exec = Jvm.exec) (hb : c.code = cc) {index : Nat} (hts : ∀ w ∈ Ts, w.before args s = true) (hin : ∀ w ∈ wsX00, w ∈ Ts) (hown : s.vm.findClass RX0 = some m.cls) (hK : va_K D vwCl (xT a) s) (hP : va_P D vwCl (xW a S) H) (k : Nat) (hk : k < 10) (hlink : (Cond.fieldLink RX0 index "FlightBooks" (TX0 k).2.1 (TX0 k).2.2.1).before args s = true) (hc : (TX0 k).1 = "FlightBooks") {v : Value} (hv : (xFs a S)[k]? = some v) (hdg : decode cc pc = .ok (.getfield index, 3))
    (kk : W p l e R s m args below meth c H locs cells slots Q (F0 m (pc + 3) ls (v :: rest))) : W p l e R s m args below meth c H locs cells slots Q (F0 m pc ls (.ref (xa a) :: rest)) :=
  va_get (D := D) (ci := 0) (C := RX0) (T := TX0) (N := 10) hexec hb hts hin hown hK hP 0 rfl rfl k hk hlink (fun x h => by rw [hc] at h; exact h) hv hdg kk
theorem x_put (hexec : p.tables.exec = Jvm.exec) (hb : c.code = cc) {index : Nat} (hts : ∀ w ∈ Ts, w.before args s = true) (hin : ∀ w ∈ wsX00, w ∈ Ts) (hown : s.vm.findClass RX0 = some m.cls) (hO : xOk a) (hK : va_K D vwCl (xT a) s) (hP : va_P D vwCl (xW a S) H) (hS : va_S (xA a) H0 H locs) (k : Nat) (hk : k < 10) (hlink : (Cond.fieldLink RX0 index "FlightBooks" (TX0 k).2.1 (TX0 k).2.2.1).before args s = true) (hc : (TX0 k).1 = "FlightBooks") (hfin : (TX0 k).2.2.2 = false) (hd : parseFieldDescriptor (TX0 k).2.2.1 = some .int) {v : Int32} (S' : XS) (hS' : xFs a S' = (xFs a S).set k (.int v)) (hw : xW a S' = (xW a S).set 0 (xa a, .inr (0, xFs a S'))) (hdg : decode cc pc = .ok (.putfield index, 3))
    (kk : ∀ (H1 : Heap) (locs1 : List Loc), va_P D vwCl (xW a S') H1 → va_S (xA a) H0 H1 locs1 → W p l e R s m args below meth c H1 locs1 cells slots Q (F0 m (pc + 3) ls rest)) : W p l e R s m args below meth c H locs cells slots Q (F0 m pc ls (.int v :: .ref (xa a) :: rest)) :=
  va_put (D := D) (ci := 0) (v := .int v) (ty := .int) (C := RX0) (T := TX0) (N := 10) hexec hb hts hin tyX0 tyX0_ok nmX0 hown hK hP (xD hO S) hS 0 rfl rfl k hk hlink (fun x h => by rw [hc] at h; exact h) hfin hd rfl rfl hk hdg (fun H1 locs1 h1 _ h3 => kk H1 locs1 (by rw [hw, hS']; exact h1) h3)
/-- lineCounts -/
theorem x_ldc (hexec : p.tables.exec = Jvm.exec) (hb : c.code = cc) (hK : va_K D vwCl (xT a) s) (hP : va_P D vwCl (xW a S) H) {b : Int32} (hin : vp_in b 5) (hdg : decode cc pc = .ok (.iaload, 1))
    (kk : W p l e R s m args below meth c H locs cells slots Q (F0 m (pc + 1) ls (.int (xc S b) :: rest))) : W p l e R s m args below meth c H locs cells slots Q (F0 m pc ls (.int b :: .ref (xac a) :: rest)) :=
  va_iald hexec hb hK hP 1 0 rfl rfl hin hdg kk
theorem x_stc (hexec : p.tables.exec = Jvm.exec) (hb : c.code = cc) (hO : xOk a) (hK : va_K D vwCl (xT a) s) (hP : va_P D vwCl (xW a S) H) (hS : va_S (xA a) H0 H locs) {b v : Int32} (hin : vp_in b 5) (hdg : decode cc pc = .ok (.iastore, 1))
    (kk : ∀ (H1 : Heap) (locs1 : List Loc), va_P D vwCl (xW a (xsc S b v)) H1 → va_S (xA a) H0 H1 locs1 → W p l e R s m args below meth c H1 locs1 cells slots Q (F0 m (pc + 1) ls rest)) : W p l e R s m args below meth c H locs cells slots Q (F0 m pc ls (.int v :: .int b :: .ref (xac a) :: rest)) :=
  va_iast hexec hb hK hP (xD hO S) hS 1 0 rfl rfl hin hdg (fun H1 locs1 h1 _ h3 => kk H1 locs1 h1 h3)
/-- held[b], places[b] -/
theorem x_ald {ws : va_W} {tys : List (ClassId × FieldType)} (hexec : p.tables.exec = Jvm.exec) (hb : c.code = cc) (hK : va_K D vwCl tys s) (hP : va_P D vwCl ws H) (q0 t0 : Nat) {q n : Nat} {cA : ClassId} {r : Nat → Nat} (ha : ws[q0]? = some (q, .inl (cA, n, .inr (.inr (.inr (.inr (xq n r))))))) (ht : tys[t0]? = some (cA, .array .int)) {b : Int32} (hin : vp_in b n) (hdg : decode cc pc = .ok (.aaload, 1))
    (kk : W p l e R s m args below meth c H locs cells slots Q (F0 m (pc + 1) ls (.ref (r b.toNatClampNeg) :: rest))) : W p l e R s m args below meth c H locs cells slots Q (F0 m pc ls (.int b :: .ref q :: rest)) := by
  have hlt := vk_lt hin
  exact W.aald (v := .ref (r b.toNatClampNeg)) (ty := .array .int) hexec hb (hP q0 _ ha) ((hK.2 t0 _ ht).1 n (fun j => va_rf (xq n r j))) rfl (fun q => by cases q) (by show ¬ (b < 0 ∨ (arrV _ _ _).slots.size ≤ _); rw [arrV_size]; exact hin) (by show (arrV _ _ _).slots[_]? = _; rw [arrV_read _ _ hlt]; simp [xq, hlt, va_rf]) rfl rfl hdg kk
theorem x_aldh (hexec : p.tables.exec = Jvm.exec) (hb : c.code = cc) (hK : va_K D vwCl (xT a) s) (hP : va_P D vwCl (xW a S) H) {b : Int32} (hin : vp_in b 5) (hdg : decode cc pc = .ok (.aaload, 1))
    (kk : W p l e R s m args below meth c H locs cells slots Q (F0 m (pc + 1) ls (.ref (xrh a b.toNatClampNeg) :: rest))) : W p l e R s m args below meth c H locs cells slots Q (F0 m pc ls (.int b :: .ref (xah a) :: rest)) :=
  x_ald hexec hb hK hP 2 1 rfl rfl hin hdg kk
theorem x_aldp (hexec : p.tables.exec = Jvm.exec) (hb : c.code = cc) (hK : va_K D vwCl (xT a) s) (hP : va_P D vwCl (xW a S) H) {b : Int32} (hin : vp_in b 24) (hdg : decode cc pc = .ok (.aaload, 1))
    (kk : W p l e R s m args below meth c H locs cells slots Q (F0 m (pc + 1) ls (.ref (xrp a b.toNatClampNeg) :: rest))) : W p l e R s m args below meth c H locs cells slots Q (F0 m pc ls (.int b :: .ref (xap a) :: rest)) :=
  x_ald hexec hb hK hP 3 1 rfl rfl hin hdg kk
theorem x_ldh (hexec : p.tables.exec = Jvm.exec) (hb : c.code = cc) (hK : va_K D vwCl (xT a) s) (hP : va_P D vwCl (xW a S) H) {b i : Int32} (hb5 : vp_in b 5) (hin : vp_in i 24) (hdg : decode cc pc = .ok (.iaload, 1))
    (kk : W p l e R s m args below meth c H locs cells slots Q (F0 m (pc + 1) ls (.int (xh S b i) :: rest))) : W p l e R s m args below meth c H locs cells slots Q (F0 m pc ls (.int i :: .ref (xrh a b.toNatClampNeg) :: rest)) :=
  va_iald hexec hb hK hP (4 + b.toNatClampNeg) 0 (xW_h (vk_lt hb5)) rfl hin hdg kk
theorem x_ldp (hexec : p.tables.exec = Jvm.exec) (hb : c.code = cc) (hK : va_K D vwCl (xT a) s) (hP : va_P D vwCl (xW a S) H) {b i : Int32} (hb5 : vp_in b 24) (hin : vp_in i 24) (hdg : decode cc pc = .ok (.iaload, 1))
    (kk : W p l e R s m args below meth c H locs cells slots Q (F0 m (pc + 1) ls (.int (xp S b i) :: rest))) : W p l e R s m args below meth c H locs cells slots Q (F0 m pc ls (.int i :: .ref (xrp a b.toNatClampNeg) :: rest)) :=
  va_iald hexec hb hK hP (9 + b.toNatClampNeg) 0 (xW_p (vk_lt hb5)) rfl hin hdg kk
theorem x_sth (hexec : p.tables.exec = Jvm.exec) (hb : c.code = cc) (hO : xOk a) (hK : va_K D vwCl (xT a) s) (hP : va_P D vwCl (xW a S) H) (hS : va_S (xA a) H0 H locs) {b i v : Int32} (hb5 : vp_in b 5) (hin : vp_in i 24) (hdg : decode cc pc = .ok (.iastore, 1))
    (kk : ∀ (H1 : Heap) (locs1 : List Loc), va_P D vwCl (xW a (xsh S b i v)) H1 → va_S (xA a) H0 H1 locs1 → W p l e R s m args below meth c H1 locs1 cells slots Q (F0 m (pc + 1) ls rest)) : W p l e R s m args below meth c H locs cells slots Q (F0 m pc ls (.int v :: .int i :: .ref (xrh a b.toNatClampNeg) :: rest)) :=
  va_iast hexec hb hK hP (xD hO S) hS (4 + b.toNatClampNeg) 0 (xW_h (vk_lt hb5)) rfl hin hdg (fun H1 locs1 h1 _ h3 => kk H1 locs1 (by rw [← xW_seth (vk_lt hb5)]; exact h1) h3)
theorem x_stp (hexec : p.tables.exec = Jvm.exec) (hb : c.code = cc) (hO : xOk a) (hK : va_K D vwCl (xT a) s) (hP : va_P D vwCl (xW a S) H) (hS : va_S (xA a) H0 H locs) {b i v : Int32} (hb5 : vp_in b 24) (hin : vp_in i 24) (hdg : decode cc pc = .ok (.iastore, 1))
    (kk : ∀ (H1 : Heap) (locs1 : List Loc), va_P D vwCl (xW a (xsp S b i v)) H1 → va_S (xA a) H0 H1 locs1 → W p l e R s m args below meth c H1 locs1 cells slots Q (F0 m (pc + 1) ls rest)) : W p l e R s m args below meth c H locs cells slots Q (F0 m pc ls (.int v :: .int i :: .ref (xrp a b.toNatClampNeg) :: rest)) :=
  va_iast hexec hb hK hP (xD hO S) hS (9 + b.toNatClampNeg) 0 (xW_p (vk_lt hb5)) rfl hin hdg (fun H1 locs1 h1 _ h3 => kk H1 locs1 (by rw [← xW_setp]; exact h1) h3)
end XR
end
section
/-! the reference's state (FlightBooksModel) as a value; the cells that hold it -/
abbrev MS : Type := Int32 × (Nat → Int32) × (Nat → Int32) × (Nat → Int32) × Int32 × Int32 × Int32 × Int32 × Int32 × Int32 × Int32 × Int32
abbrev mN (S : MS) : Int32 := S.1
abbrev mC (S : MS) : Nat → Int32 := S.2.1
abbrev mH (S : MS) : Nat → Int32 := S.2.2.1
abbrev mP (S : MS) : Nat → Int32 := S.2.2.2.1
abbrev mCh (S : MS) : Int32 := S.2.2.2.2.1
abbrev mRw (S : MS) : Int32 := S.2.2.2.2.2.1
abbrev mAc (S : MS) : Int32 := S.2.2.2.2.2.2.1
abbrev mOu (S : MS) : Int32 := S.2.2.2.2.2.2.2.1
abbrev mOl (S : MS) : Int32 := S.2.2.2.2.2.2.2.2.1
abbrev mFs (S : MS) : Int32 := S.2.2.2.2.2.2.2.2.2.1
abbrev mLa (S : MS) : Int32 := S.2.2.2.2.2.2.2.2.2.2.1
abbrev mFa (S : MS) : Int32 := S.2.2.2.2.2.2.2.2.2.2.2
abbrev msC (S : MS) (v : Nat → Int32) : MS := (mN S, v, mH S, mP S, mCh S, mRw S, mAc S, mOu S, mOl S, mFs S, mLa S, mFa S)
abbrev msH (S : MS) (v : Nat → Int32) : MS := (mN S, mC S, v, mP S, mCh S, mRw S, mAc S, mOu S, mOl S, mFs S, mLa S, mFa S)
abbrev msP (S : MS) (v : Nat → Int32) : MS := (mN S, mC S, mH S, v, mCh S, mRw S, mAc S, mOu S, mOl S, mFs S, mLa S, mFa S)
abbrev msCh (S : MS) (v : Int32) : MS := (mN S, mC S, mH S, mP S, v, mRw S, mAc S, mOu S, mOl S, mFs S, mLa S, mFa S)
abbrev msRw (S : MS) (v : Int32) : MS := (mN S, mC S, mH S, mP S, mCh S, v, mAc S, mOu S, mOl S, mFs S, mLa S, mFa S)
abbrev msAc (S : MS) (v : Int32) : MS := (mN S, mC S, mH S, mP S, mCh S, mRw S, v, mOu S, mOl S, mFs S, mLa S, mFa S)
abbrev msOu (S : MS) (v : Int32) : MS := (mN S, mC S, mH S, mP S, mCh S, mRw S, mAc S, v, mOl S, mFs S, mLa S, mFa S)
abbrev msOl (S : MS) (v : Int32) : MS := (mN S, mC S, mH S, mP S, mCh S, mRw S, mAc S, mOu S, v, mFs S, mLa S, mFa S)
abbrev msFs (S : MS) (v : Int32) : MS := (mN S, mC S, mH S, mP S, mCh S, mRw S, mAc S, mOu S, mOl S, v, mLa S, mFa S)
abbrev msLa (S : MS) (v : Int32) : MS := (mN S, mC S, mH S, mP S, mCh S, mRw S, mAc S, mOu S, mOl S, mFs S, v, mFa S)
abbrev msFa (S : MS) (v : Int32) : MS := (mN S, mC S, mH S, mP S, mCh S, mRw S, mAc S, mOu S, mOl S, mFs S, mLa S, v)
abbrev mc (S : MS) (b : Int32) : Int32 := mC S b.toNatClampNeg
abbrev mh (S : MS) (k : Int32) : Int32 := mH S k.toNatClampNeg
abbrev mp (S : MS) (k : Int32) : Int32 := mP S k.toNatClampNeg
abbrev msc (S : MS) (b v : Int32) : MS := msC S (upd (mC S) b.toNatClampNeg v)
abbrev msh (S : MS) (b v : Int32) : MS := msH S (upd (mH S) b.toNatClampNeg v)
abbrev msp (S : MS) (b v : Int32) : MS := msP S (upd (mP S) b.toNatClampNeg v)
/-- where its cells are: the object, many, cells, places; the class of int[] -/
abbrev MA : Type := Nat × Nat × Nat × Nat × ClassId
abbrev ma (a : MA) : Nat := a.1
abbrev mac (a : MA) : Nat := a.2.1
abbrev mah (a : MA) : Nat := a.2.2.1
abbrev map' (a : MA) : Nat := a.2.2.2.1
abbrev mcI (a : MA) : ClassId := a.2.2.2.2
abbrev mFl (a : MA) (S : MS) : List Value := [.int (mN S), .ref (mac a), .ref (mah a), .ref (map' a), .int (mCh S), .int (mRw S), .int (mAc S), .int (mOu S), .int (mOl S), .int (mFs S), .int (mLa S), .int (mFa S)]
abbrev mW (a : MA) (S : MS) : va_W := [(ma a, .inr (1, mFl a S)), (mac a, .inl (mcI a, 5, .inl (mC S))), (mah a, .inl (mcI a, 120, .inl (mH S))), (map' a, .inl (mcI a, 576, .inl (mP S)))]
abbrev mT (a : MA) : List (ClassId × FieldType) := [(mcI a, .int)]
def mL (a : MA) : List Nat := [ma a, mac a, mah a, map' a]
def mA (a : MA) : Nat → Prop := fun q => q ∈ mL a
def mOk (a : MA) : Prop := ∀ (i j x : Nat), (mL a)[i]? = some x → (mL a)[j]? = some x → i = j
theorem mD {a : MA} (h : mOk a) (S : MS) : va_D (mA a) (mW a S) := by
  have e : (mW a S).map Prod.fst = mL a := rfl
  refine ⟨fun i j p q hp hq hpq => ?_, fun k q hk => ?_⟩
  · have h1 : (mL a)[i]? = some p.1 := by rw [← e, List.getElem?_map, hp]; rfl
    have h2 : (mL a)[j]? = some p.1 := by rw [← e, List.getElem?_map, hq, hpq]; rfl
    exact h i j _ h1 h2
  · show q.1 ∈ mL a
    rw [← e]
    exact List.mem_map.mpr ⟨q, List.mem_of_getElem? hk, rfl⟩
abbrev mB (D : va_G) (a : MA) (S : MS) (t : State) : Prop := va_P D vwCl (mW a S) t.heap ∧ va_K D vwCl (mT a) t
abbrev mQi (D : va_G) (a : MA) (F : Int32 × MS) : Array Value → State → Outcome → State → Prop := va_Qi (fun (r : Int32) (u : MS) => F = (r, u)) (mB D a) (mA a)
abbrev mQv (D : va_G) (a : MA) (F : MS) : Array Value → State → Outcome → State → Prop := va_Qv (fun (u : MS) => F = u) (mB D a) (mA a)
theorem mBlind {D : va_G} {a : MA} {S : MS} {av : List Value} : FrameBlind (va_Pc av (mB D a S)) := fun a U g mk q => by
  obtain ⟨q0, qP, qK⟩ := q
  exact ⟨q0, qP, va_K.moved (u := U) (U := U.calling g mk a) (Vm.Alike.refl U.vm) qK⟩
theorem mPreV {s : State} {H : Heap} {D : va_G} {a : MA} {S : MS} {As : List Value} (hK : va_K D vwCl (mT a) s) (hP : va_P D vwCl (mW a S) H) : PreV s H RX1 (ma a) (va_Pc (.ref (ma a) :: As) (mB D a S)) As :=
  ⟨mBlind, va_recv (q := (RX1, TX1, 12)) hK hP (ci := 1) (q0 := 0) rfl rfl, fun U hU hW => ⟨rfl, by rw [hU]; exact hP, va_K.moved hW.alike hK⟩⟩
section MR
variable {p : Program} {l : Launch} {e : Env} {R : Room} {s : State} {m : MethodId} {args : Array Value} {below : List Frame} {meth : Method} {c : Code} {H : Heap} {locs : List Loc} {cells slots : Nat} {Q : State → Prop}
variable {cc : ByteArray} {pc : Nat} {ls : Array Slot} {rest : List Value} {D : va_G} {a : MA} {S : MS} {H0 : Heap} {Ts : List Cond}
theorem m_get (hexec : p.tables.exec = Jvm.exec) (hb : c.code = cc) {index : Nat} (hts : ∀ w ∈ Ts, w.before args s = true) (hin : ∀ w ∈ wsX10, w ∈ Ts) (hown : s.vm.findClass RX1 = some m.cls) (hK : va_K D vwCl (mT a) s) (hP : va_P D vwCl (mW a S) H) (k : Nat) (hk : k < 12) (hlink : (Cond.fieldLink RX1 index "FlightBooksModel" (TX1 k).2.1 (TX1 k).2.2.1).before args s = true) (hc : (TX1 k).1 = "FlightBooksModel") {v : Value} (hv : (mFl a S)[k]? = some v) (hdg : decode cc pc = .ok (.getfield index, 3))
    (kk : W p l e R s m args below meth c H locs cells slots Q (F0 m (pc + 3) ls (v :: rest))) : W p l e R s m args below meth c H locs cells slots Q (F0 m pc ls (.ref (ma a) :: rest)) :=
  va_get (D := D) (ci := 1) (C := RX1) (T := TX1) (N := 12) hexec hb hts hin hown hK hP 0 rfl rfl k hk hlink (fun x h => by rw [hc] at h; exact h) hv hdg kk
theorem m_put (hexec : p.tables.exec = Jvm.exec) (hb : c.code = cc) {index : Nat} (hts : ∀ w ∈ Ts, w.before args s = true) (hin : ∀ w ∈ wsX10, w ∈ Ts) (hown : s.vm.findClass RX1 = some m.cls) (hO : mOk a) (hK : va_K D vwCl (mT a) s) (hP : va_P D vwCl (mW a S) H) (hS : va_S (mA a) H0 H locs) (k : Nat) (hk : k < 12) (hlink : (Cond.fieldLink RX1 index "FlightBooksModel" (TX1 k).2.1 (TX1 k).2.2.1).before args s = true) (hc : (TX1 k).1 = "FlightBooksModel") (hfin : (TX1 k).2.2.2 = false) {ty : FieldType} (hd : parseFieldDescriptor (TX1 k).2.2.1 = some ty) {v : Int32} (hn : narrow ty (.int v) = .int v) (hfit : fits ty (.int v) = true) (S' : MS) (hS' : mFl a S' = (mFl a S).set k (.int v)) (hw : mW a S' = (mW a S).set 0 (ma a, .inr (1, mFl a S'))) (hdg : decode cc pc = .ok (.putfield index, 3))
    (kk : ∀ (H1 : Heap) (locs1 : List Loc), va_P D vwCl (mW a S') H1 → va_S (mA a) H0 H1 locs1 → W p l e R s m args below meth c H1 locs1 cells slots Q (F0 m (pc + 3) ls rest)) : W p l e R s m args below meth c H locs cells slots Q (F0 m pc ls (.int v :: .ref (ma a) :: rest)) :=
  va_put (D := D) (ci := 1) (v := .int v) (ty := ty) (C := RX1) (T := TX1) (N := 12) hexec hb hts hin tyX1 tyX1_ok nmX1 hown hK hP (mD hO S) hS 0 rfl rfl k hk hlink (fun x h => by rw [hc] at h; exact h) hfin hd hn hfit hk hdg (fun H1 locs1 h1 _ h3 => kk H1 locs1 (by rw [hw, hS']; exact h1) h3)
theorem m_ldc (hexec : p.tables.exec = Jvm.exec) (hb : c.code = cc) (hK : va_K D vwCl (mT a) s) (hP : va_P D vwCl (mW a S) H) {b : Int32} (hin : vp_in b 5) (hdg : decode cc pc = .ok (.iaload, 1))
    (kk : W p l e R s m args below meth c H locs cells slots Q (F0 m (pc + 1) ls (.int (mc S b) :: rest))) : W p l e R s m args below meth c H locs cells slots Q (F0 m pc ls (.int b :: .ref (mac a) :: rest)) :=
  va_iald hexec hb hK hP 1 0 rfl rfl hin hdg kk
theorem m_stc (hexec : p.tables.exec = Jvm.exec) (hb : c.code = cc) (hO : mOk a) (hK : va_K D vwCl (mT a) s) (hP : va_P D vwCl (mW a S) H) (hS : va_S (mA a) H0 H locs) {b v : Int32} (hin : vp_in b 5) (hdg : decode cc pc = .ok (.iastore, 1))
    (kk : ∀ (H1 : Heap) (locs1 : List Loc), va_P D vwCl (mW a (msc S b v)) H1 → va_S (mA a) H0 H1 locs1 → W p l e R s m args below meth c H1 locs1 cells slots Q (F0 m (pc + 1) ls rest)) : W p l e R s m args below meth c H locs cells slots Q (F0 m pc ls (.int v :: .int b :: .ref (mac a) :: rest)) :=
  va_iast hexec hb hK hP (mD hO S) hS 1 0 rfl rfl hin hdg (fun H1 locs1 h1 _ h3 => kk H1 locs1 h1 h3)
theorem m_ldh (hexec : p.tables.exec = Jvm.exec) (hb : c.code = cc) (hK : va_K D vwCl (mT a) s) (hP : va_P D vwCl (mW a S) H) {b : Int32} (hin : vp_in b 120) (hdg : decode cc pc = .ok (.iaload, 1))
    (kk : W p l e R s m args below meth c H locs cells slots Q (F0 m (pc + 1) ls (.int (mh S b) :: rest))) : W p l e R s m args below meth c H locs cells slots Q (F0 m pc ls (.int b :: .ref (mah a) :: rest)) :=
  va_iald hexec hb hK hP 2 0 rfl rfl hin hdg kk
theorem m_sth (hexec : p.tables.exec = Jvm.exec) (hb : c.code = cc) (hO : mOk a) (hK : va_K D vwCl (mT a) s) (hP : va_P D vwCl (mW a S) H) (hS : va_S (mA a) H0 H locs) {b v : Int32} (hin : vp_in b 120) (hdg : decode cc pc = .ok (.iastore, 1))
    (kk : ∀ (H1 : Heap) (locs1 : List Loc), va_P D vwCl (mW a (msh S b v)) H1 → va_S (mA a) H0 H1 locs1 → W p l e R s m args below meth c H1 locs1 cells slots Q (F0 m (pc + 1) ls rest)) : W p l e R s m args below meth c H locs cells slots Q (F0 m pc ls (.int v :: .int b :: .ref (mah a) :: rest)) :=
  va_iast hexec hb hK hP (mD hO S) hS 2 0 rfl rfl hin hdg (fun H1 locs1 h1 _ h3 => kk H1 locs1 h1 h3)
theorem m_ldp (hexec : p.tables.exec = Jvm.exec) (hb : c.code = cc) (hK : va_K D vwCl (mT a) s) (hP : va_P D vwCl (mW a S) H) {b : Int32} (hin : vp_in b 576) (hdg : decode cc pc = .ok (.iaload, 1))
    (kk : W p l e R s m args below meth c H locs cells slots Q (F0 m (pc + 1) ls (.int (mp S b) :: rest))) : W p l e R s m args below meth c H locs cells slots Q (F0 m pc ls (.int b :: .ref (map' a) :: rest)) :=
  va_iald hexec hb hK hP 3 0 rfl rfl hin hdg kk
theorem m_stp (hexec : p.tables.exec = Jvm.exec) (hb : c.code = cc) (hO : mOk a) (hK : va_K D vwCl (mT a) s) (hP : va_P D vwCl (mW a S) H) (hS : va_S (mA a) H0 H locs) {b v : Int32} (hin : vp_in b 576) (hdg : decode cc pc = .ok (.iastore, 1))
    (kk : ∀ (H1 : Heap) (locs1 : List Loc), va_P D vwCl (mW a (msp S b v)) H1 → va_S (mA a) H0 H1 locs1 → W p l e R s m args below meth c H1 locs1 cells slots Q (F0 m (pc + 1) ls rest)) : W p l e R s m args below meth c H locs cells slots Q (F0 m pc ls (.int v :: .int b :: .ref (map' a) :: rest)) :=
  va_iast hexec hb hK hP (mD hO S) hS 3 0 rfl rfl hin hdg (fun H1 locs1 h1 _ h3 => kk H1 locs1 h1 h3)
end MR
end
section
/-! bounds; what stands of the class' state between calls (xI) -/
theorem vp_k0_5 : vp_in 0 5 := by unfold vp_in; decide
theorem vp_k1_5 : vp_in 1 5 := by unfold vp_in; decide
theorem vp_k2_5 : vp_in 2 5 := by unfold vp_in; decide
theorem vp_k3_5 : vp_in 3 5 := by unfold vp_in; decide
theorem vp_k4_5 : vp_in 4 5 := by unfold vp_in; decide
theorem vp_k0_24 : vp_in 0 24 := by unfold vp_in; decide
theorem in_of {i n : Int32} {k : Nat} (hk : n.toInt ≤ (k : Int)) (h0 : ¬ i < 0) (h1 : i < n) : vp_in i k := by
  rw [vp_in_iff]
  rw [Int32.lt_iff_toInt_lt] at h0 h1
  have e : (0 : Int32).toInt = 0 := by decide
  rw [e] at h0
  omega
theorem in_of' {i n : Int32} {k : Nat} (hk : n.toInt ≤ (k : Int)) (h0 : ¬ i < 0) (h1 : ¬ n ≤ i) : vp_in i k := in_of hk h0 (by rw [Int32.lt_iff_toInt_lt]; rw [Int32.le_iff_toInt_le] at h1; omega)
def xI (S : XS) : Prop := (∀ b, b < 5 → (-1 ≤ (xC S b).toInt ∧ (xC S b).toInt ≤ 24)) ∧ (1 ≤ (xN S).toInt ∧ (xN S).toInt ≤ 24) ∧ (-1 ≤ (xRc S).toInt ∧ (xRc S).toInt ≤ 24) ∧ (0 ≤ (xCc S).toInt ∧ (xCc S).toInt ≤ 24)
def xF_isBook (p1 : Int32) : Int32 := (if p1 < 0 then 0 else (if 5 ≤ p1 then 0 else 1))
theorem hdX0_isBook : yX0_isBook.cls ≠ "java/lang/invoke/MethodHandle" ∧ yX0_isBook.cls ≠ "java/lang/invoke/VarHandle" ∧ (parseMethodDescriptor yX0_isBook.desc).map (fun d => d.parameters.length) = some 1 := by decide +kernel
set_option maxHeartbeats 4000000 in
set_option maxRecDepth 100000 in
theorem c_X0_isBook (l : Launch) (p1 : Int32) : Met l yX0_isBook wsX0_isBook ({ frames := 0, cells := 0, slots := 0, locals := 0 }) (va_Pc [.int p1] (fun _ => True)) (pQi (xF_isBook p1)) 0 0 (fun _ => False) := by
  refine Met.ofW (cc := cX0_isBook) (maxL := 1) (ret := (some .boolean)) (by decide) rfl ?_
  intro p e s m args below meth c s₁ B hml hv
  obtain ⟨rfl, -⟩ := hv
  have hx := B.exec
  have hb := B.bytes
  have hr := B.returns
  have hts := atoms_spec (ws := wsX0_isBook) B.pre
  have hown : s.vm.findClass RX0 = some m.cls := findClass_of_methodNamed B.named
  have hlocks := B.notSynchronized
  have hS : va_S (fun _ => False) s.heap s.heap [] := va_S.rf
  have hl := lv_entry ([.int p1]) (n := 1) (Nat.le_of_ble_eq_true rfl)
  rw [lg_entry_eq]
  generalize (lg_sl ([.int p1]) ++ List.replicate (1 - (lg_sl ([.int p1])).length) Slot.unset).toArray = ls at hl ⊢
  have hl : lv_has ls 1 [(0, .int p1)] := hl
  refine lv_iload_n hx hb dX0_isBook_0 rfl (lv_at hl 0 rfl) ?_
  refine lv_if_lt (tgt := 13) hx hb dX0_isBook_1 (by decide) (fun c1 => ?_) (fun c1 => ?_)
  · refine lv_iconst (v := 0) hx hb dX0_isBook_13 (by decide) ?_
    exact W.zret (v := 0) hx hb hr rfl (fun t ht hW => ⟨⟨0, (), rfl, (by simp only [xF_isBook, if_pos c1]), trivial⟩, hS.F ht⟩) hS.2.2 dX0_isBook_14
  · refine lv_iload_n hx hb dX0_isBook_4 rfl (lv_at hl 0 rfl) ?_
    refine lv_iconst (v := 5) hx hb dX0_isBook_5 (by decide) ?_
    refine lv_icmp_ge (tgt := 13) hx hb dX0_isBook_6 (by decide) (fun c2 => ?_) (fun c2 => ?_)
    · refine lv_iconst (v := 0) hx hb dX0_isBook_13 (by decide) ?_
      exact W.zret (v := 0) hx hb hr rfl (fun t ht hW => ⟨⟨0, (), rfl, (by simp only [xF_isBook, if_neg c1, if_pos c2]), trivial⟩, hS.F ht⟩) hS.2.2 dX0_isBook_14
    · refine lv_iconst (v := 1) hx hb dX0_isBook_9 (by decide) ?_
      refine lv_goto (tgt := 14) hx hb dX0_isBook_10 (by decide) ?_
      exact W.zret (v := 1) hx hb hr rfl (fun t ht hW => ⟨⟨1, (), rfl, (by simp only [xF_isBook, if_neg c1, if_neg c2]), trivial⟩, hS.F ht⟩) hS.2.2 dX0_isBook_14
def xF_isToldLoad (p1 : Int32) : Int32 := (if p1 < (-16000) then 0 else (if 16000 < p1 then 0 else 1))
theorem hdX0_isToldLoad : yX0_isToldLoad.cls ≠ "java/lang/invoke/MethodHandle" ∧ yX0_isToldLoad.cls ≠ "java/lang/invoke/VarHandle" ∧ (parseMethodDescriptor yX0_isToldLoad.desc).map (fun d => d.parameters.length) = some 1 := by decide +kernel
set_option maxHeartbeats 4000000 in
set_option maxRecDepth 100000 in
theorem c_X0_isToldLoad (l : Launch) (p1 : Int32) : Met l yX0_isToldLoad wsX0_isToldLoad ({ frames := 0, cells := 0, slots := 0, locals := 0 }) (va_Pc [.int p1] (fun _ => True)) (pQi (xF_isToldLoad p1)) 0 0 (fun _ => False) := by
  refine Met.ofW (cc := cX0_isToldLoad) (maxL := 1) (ret := (some .boolean)) (by decide) rfl ?_
  intro p e s m args below meth c s₁ B hml hv
  obtain ⟨rfl, -⟩ := hv
  have hx := B.exec
  have hb := B.bytes
  have hr := B.returns
  have hts := atoms_spec (ws := wsX0_isToldLoad) B.pre
  have hown : s.vm.findClass RX0 = some m.cls := findClass_of_methodNamed B.named
  have hlocks := B.notSynchronized
  have hS : va_S (fun _ => False) s.heap s.heap [] := va_S.rf
  have hl := lv_entry ([.int p1]) (n := 1) (Nat.le_of_ble_eq_true rfl)
  rw [lg_entry_eq]
  generalize (lg_sl ([.int p1]) ++ List.replicate (1 - (lg_sl ([.int p1])).length) Slot.unset).toArray = ls at hl ⊢
  have hl : lv_has ls 1 [(0, .int p1)] := hl
  refine lv_iload_n hx hb dX0_isToldLoad_0 rfl (lv_at hl 0 rfl) ?_
  refine lv_sipush (v := (-16000)) hx hb dX0_isToldLoad_1 (by decide) ?_
  refine lv_icmp_lt (tgt := 18) hx hb dX0_isToldLoad_4 (by decide) (fun c1 => ?_) (fun c1 => ?_)
  · refine lv_iconst (v := 0) hx hb dX0_isToldLoad_18 (by decide) ?_
    exact W.zret (v := 0) hx hb hr rfl (fun t ht hW => ⟨⟨0, (), rfl, (by simp only [xF_isToldLoad, if_pos c1]), trivial⟩, hS.F ht⟩) hS.2.2 dX0_isToldLoad_19
  · refine lv_iload_n hx hb dX0_isToldLoad_7 rfl (lv_at hl 0 rfl) ?_
    refine lv_sipush (v := 16000) hx hb dX0_isToldLoad_8 (by decide) ?_
    refine lv_icmp_gt (tgt := 18) hx hb dX0_isToldLoad_11 (by decide) (fun c2 => ?_) (fun c2 => ?_)
    · refine lv_iconst (v := 0) hx hb dX0_isToldLoad_18 (by decide) ?_
      exact W.zret (v := 0) hx hb hr rfl (fun t ht hW => ⟨⟨0, (), rfl, (by simp only [xF_isToldLoad, if_neg c1, if_pos c2]), trivial⟩, hS.F ht⟩) hS.2.2 dX0_isToldLoad_19
    · refine lv_iconst (v := 1) hx hb dX0_isToldLoad_14 (by decide) ?_
      refine lv_goto (tgt := 19) hx hb dX0_isToldLoad_15 (by decide) ?_
      exact W.zret (v := 1) hx hb hr rfl (fun t ht hW => ⟨⟨1, (), rfl, (by simp only [xF_isToldLoad, if_neg c1, if_neg c2]), trivial⟩, hS.F ht⟩) hS.2.2 dX0_isToldLoad_19
def xF_nearest (p1 p2 p3 : Int32) : Int32 := (if p2 < (if p1 < p3 then p1 else p3) then (if p1 < p3 then p1 else p3) else p2)
theorem hdX0_nearest : yX0_nearest.cls ≠ "java/lang/invoke/MethodHandle" ∧ yX0_nearest.cls ≠ "java/lang/invoke/VarHandle" ∧ (parseMethodDescriptor yX0_nearest.desc).map (fun d => d.parameters.length) = some 3 := by decide +kernel
set_option maxHeartbeats 4000000 in
set_option maxRecDepth 100000 in
theorem c_X0_nearest (l : Launch) (p1 p2 p3 : Int32) : Met l yX0_nearest wsX0_nearest ({ frames := 1, cells := 0, slots := 0, locals := 20 }) (va_Pc [.int p1, .int p2, .int p3] (fun _ => True)) (pQi (xF_nearest p1 p2 p3)) 0 0 (fun _ => False) := by
  refine Met.ofW (cc := cX0_nearest) (maxL := 3) (ret := (some .int)) (by decide) rfl ?_
  intro p e s m args below meth c s₁ B hml hv
  obtain ⟨rfl, -⟩ := hv
  have hx := B.exec
  have hb := B.bytes
  have hr := B.returns
  have hts := atoms_spec (ws := wsX0_nearest) B.pre
  have hown : s.vm.findClass RX0 = some m.cls := findClass_of_methodNamed B.named
  have hlocks := B.notSynchronized
  have hS : va_S (fun _ => False) s.heap s.heap [] := va_S.rf
  have hml121 := hts (.methodLink RX0 121 Lib.Math.min.name) (by decide +kernel)
  have hms_min := hts (.static Lib.Math.min.name) (by decide +kernel)
  have hmi := hts (.initialized "java/lang/Math") (by decide +kernel)
  have hmc_min := hts (.code Lib.Math.min.name Lib.Math.min.code 2 (some .int)) (by decide +kernel)
  have hml126 := hts (.methodLink RX0 126 Lib.Math.max.name) (by decide +kernel)
  have hms_max := hts (.static Lib.Math.max.name) (by decide +kernel)
  have hmc_max := hts (.code Lib.Math.max.name Lib.Math.max.code 2 (some .int)) (by decide +kernel)
  have hl := lv_entry ([.int p1, .int p2, .int p3]) (n := 3) (Nat.le_of_ble_eq_true rfl)
  rw [lg_entry_eq]
  generalize (lg_sl ([.int p1, .int p2, .int p3]) ++ List.replicate (3 - (lg_sl ([.int p1, .int p2, .int p3])).length) Slot.unset).toArray = ls at hl ⊢
  have hl : lv_has ls 3 [(0, .int p1), (1, .int p2), (2, .int p3)] := hl
  refine lv_iload_n hx hb dX0_nearest_0 rfl (lv_at hl 1 rfl) ?_
  refine lv_iload_n hx hb dX0_nearest_1 rfl (lv_at hl 2 rfl) ?_
  refine lv_iload_n hx hb dX0_nearest_2 rfl (lv_at hl 0 rfl) ?_
  refine va_mmin hx hb (hml.trans hl.1.symm) hown hml121 hms_min hmi hmc_min (Nat.le_of_ble_eq_true rfl) (Nat.le_of_ble_eq_true rfl) (Nat.zero_le _) (Nat.zero_le _) dX0_nearest_3 ?_
  refine va_mmax hx hb (hml.trans hl.1.symm) hown hml126 hms_max hmi hmc_max (Nat.le_of_ble_eq_true rfl) (Nat.le_of_ble_eq_true rfl) (Nat.zero_le _) (Nat.zero_le _) dX0_nearest_6 ?_
  exact W.iret (v := (if p2 < (if p1 < p3 then p1 else p3) then (if p1 < p3 then p1 else p3) else p2)) hx hb hr (fun t ht hW => ⟨⟨(if p2 < (if p1 < p3 then p1 else p3) then (if p1 < p3 then p1 else p3) else p2), (), rfl, rfl, trivial⟩, hS.F ht⟩) hS.2.2 dX0_nearest_9
def xF_changedGate (p1 p2 p3 : Int32) : Int32 := (if p2 = 0 then (p1 ||| p3) else (if p2 = 1 then (p1 &&& p3) else (if p2 = 2 then (p1 ^^^ 1) else (p1 ^^^ p3))))
theorem hdX0_changedGate : yX0_changedGate.cls ≠ "java/lang/invoke/MethodHandle" ∧ yX0_changedGate.cls ≠ "java/lang/invoke/VarHandle" ∧ (parseMethodDescriptor yX0_changedGate.desc).map (fun d => d.parameters.length) = some 3 := by decide +kernel
set_option maxHeartbeats 4000000 in
set_option maxRecDepth 100000 in
theorem c_X0_changedGate (l : Launch) (p1 p2 p3 : Int32) : Met l yX0_changedGate wsX0_changedGate ({ frames := 0, cells := 0, slots := 0, locals := 0 }) (va_Pc [.int p1, .int p2, .int p3] (fun _ => True)) (pQi (xF_changedGate p1 p2 p3)) 0 0 (fun _ => False) := by
  refine Met.ofW (cc := cX0_changedGate) (maxL := 3) (ret := (some .int)) (by decide) rfl ?_
  intro p e s m args below meth c s₁ B hml hv
  obtain ⟨rfl, -⟩ := hv
  have hx := B.exec
  have hb := B.bytes
  have hr := B.returns
  have hts := atoms_spec (ws := wsX0_changedGate) B.pre
  have hown : s.vm.findClass RX0 = some m.cls := findClass_of_methodNamed B.named
  have hlocks := B.notSynchronized
  have hS : va_S (fun _ => False) s.heap s.heap [] := va_S.rf
  have hl := lv_entry ([.int p1, .int p2, .int p3]) (n := 3) (Nat.le_of_ble_eq_true rfl)
  rw [lg_entry_eq]
  generalize (lg_sl ([.int p1, .int p2, .int p3]) ++ List.replicate (3 - (lg_sl ([.int p1, .int p2, .int p3])).length) Slot.unset).toArray = ls at hl ⊢
  have hl : lv_has ls 3 [(0, .int p1), (1, .int p2), (2, .int p3)] := hl
  refine lv_iload_n hx hb dX0_changedGate_0 rfl (lv_at hl 1 rfl) ?_
  by_cases c1 : p2 = 0
  · refine lv_tableIn (tgt := 28) hx hb dX0_changedGate_1 (by rw [c1]; decide) (by rw [c1]; decide) (by rw [c1]; rfl) (by decide) ?_
    refine lv_iload_n hx hb dX0_changedGate_28 rfl (lv_at hl 0 rfl) ?_
    refine lv_iload_n hx hb dX0_changedGate_29 rfl (lv_at hl 2 rfl) ?_
    refine lv_ior hx hb dX0_changedGate_30 ?_
    exact W.iret (v := (p1 ||| p3)) hx hb hr (fun t ht hW => ⟨⟨(p1 ||| p3), (), rfl, (by simp only [xF_changedGate, if_pos c1]), trivial⟩, hS.F ht⟩) hS.2.2 dX0_changedGate_31
  · skip
    by_cases c2 : p2 = 1
    · refine lv_tableIn (tgt := 32) hx hb dX0_changedGate_1 (by rw [c2]; decide) (by rw [c2]; decide) (by rw [c2]; rfl) (by decide) ?_
      refine lv_iload_n hx hb dX0_changedGate_32 rfl (lv_at hl 0 rfl) ?_
      refine lv_iload_n hx hb dX0_changedGate_33 rfl (lv_at hl 2 rfl) ?_
      refine lv_iand hx hb dX0_changedGate_34 ?_
      exact W.iret (v := (p1 &&& p3)) hx hb hr (fun t ht hW => ⟨⟨(p1 &&& p3), (), rfl, (by simp only [xF_changedGate, if_pos c2, if_neg c1]), trivial⟩, hS.F ht⟩) hS.2.2 dX0_changedGate_35
    · skip
      by_cases c3 : p2 = 2
      · refine lv_tableIn (tgt := 36) hx hb dX0_changedGate_1 (by rw [c3]; decide) (by rw [c3]; decide) (by rw [c3]; rfl) (by decide) ?_
        refine lv_iload_n hx hb dX0_changedGate_36 rfl (lv_at hl 0 rfl) ?_
        refine lv_iconst (v := 1) hx hb dX0_changedGate_37 (by decide) ?_
        refine lv_ixor hx hb dX0_changedGate_38 ?_
        exact W.iret (v := (p1 ^^^ 1)) hx hb hr (fun t ht hW => ⟨⟨(p1 ^^^ 1), (), rfl, (by simp only [xF_changedGate, if_pos c3, if_neg c1, if_neg c2]), trivial⟩, hS.F ht⟩) hS.2.2 dX0_changedGate_39
      · skip
        have nc1 := lv_neT c1 (a := 0) (by decide)
        have nc2 := lv_neT c2 (a := 1) (by decide)
        have nc3 := lv_neT c3 (a := 2) (by decide)
        refine lv_tableOut (tgt := 40) hx hb dX0_changedGate_1 (by omega) (by decide) ?_
        refine lv_iload_n hx hb dX0_changedGate_40 rfl (lv_at hl 0 rfl) ?_
        refine lv_iload_n hx hb dX0_changedGate_41 rfl (lv_at hl 2 rfl) ?_
        refine lv_ixor hx hb dX0_changedGate_42 ?_
        exact W.iret (v := (p1 ^^^ p3)) hx hb hr (fun t ht hW => ⟨⟨(p1 ^^^ p3), (), rfl, (by simp only [xF_changedGate, if_neg c1, if_neg c2, if_neg c3]), trivial⟩, hS.F ht⟩) hS.2.2 dX0_changedGate_43
def xF_cut (p1 p2 : Int32) : Int32 := (if p1 = 0 then (p2 &&& 65535) else (if p1 = 1 then (p2.toInt16.toInt32) else (if p1 = 2 then (xF_nearest p2 (-2000000) 2000000) else (if p1 = 3 then (p2 &&& 1) else (p2.toInt8.toInt32)))))
theorem hdX0_cut : yX0_cut.cls ≠ "java/lang/invoke/MethodHandle" ∧ yX0_cut.cls ≠ "java/lang/invoke/VarHandle" ∧ (parseMethodDescriptor yX0_cut.desc).map (fun d => d.parameters.length) = some 2 := by decide +kernel
set_option maxHeartbeats 4000000 in
set_option maxRecDepth 100000 in
theorem c_X0_cut (l : Launch) (p1 p2 : Int32) : Met l yX0_cut wsX0_cut ({ frames := 2, cells := 0, slots := 0, locals := 42 }) (va_Pc [.int p1, .int p2] (fun _ => True)) (pQi (xF_cut p1 p2)) 0 0 (fun _ => False) := by
  refine Met.ofW (cc := cX0_cut) (maxL := 2) (ret := (some .int)) (by decide) rfl ?_
  intro p e s m args below meth c s₁ B hml hv
  obtain ⟨rfl, -⟩ := hv
  have hx := B.exec
  have hb := B.bytes
  have hr := B.returns
  have hts := atoms_spec (ws := wsX0_cut) B.pre
  have hown : s.vm.findClass RX0 = some m.cls := findClass_of_methodNamed B.named
  have hlocks := B.notSynchronized
  have hS : va_S (fun _ => False) s.heap s.heap [] := va_S.rf
  have hk118 := hts (.constant RX0 118 (65535)) (by decide +kernel)
  have hk119 := hts (.constant RX0 119 (-2000000)) (by decide +kernel)
  have hk120 := hts (.constant RX0 120 (2000000)) (by decide +kernel)
  have hl := lv_entry ([.int p1, .int p2]) (n := 2) (Nat.le_of_ble_eq_true rfl)
  rw [lg_entry_eq]
  generalize (lg_sl ([.int p1, .int p2]) ++ List.replicate (2 - (lg_sl ([.int p1, .int p2])).length) Slot.unset).toArray = ls at hl ⊢
  have hl : lv_has ls 2 [(0, .int p1), (1, .int p2)] := hl
  refine lv_iload_n hx hb dX0_cut_0 rfl (lv_at hl 0 rfl) ?_
  by_cases c1 : p1 = 0
  · refine lv_tableIn (tgt := 32) hx hb dX0_cut_1 (by rw [c1]; decide) (by rw [c1]; decide) (by rw [c1]; rfl) (by decide) ?_
    refine lv_iload_n hx hb dX0_cut_32 rfl (lv_at hl 1 rfl) ?_
    refine lv_ldc (v := 65535) hx hb hown hk118 dX0_cut_33 ?_
    refine lv_iand hx hb dX0_cut_35 ?_
    exact W.iret (v := (p2 &&& 65535)) hx hb hr (fun t ht hW => ⟨⟨(p2 &&& 65535), (), rfl, (by simp only [xF_cut, if_pos c1]), trivial⟩, hS.F ht⟩) hS.2.2 dX0_cut_36
  · skip
    by_cases c2 : p1 = 1
    · refine lv_tableIn (tgt := 37) hx hb dX0_cut_1 (by rw [c2]; decide) (by rw [c2]; decide) (by rw [c2]; rfl) (by decide) ?_
      refine lv_iload_n hx hb dX0_cut_37 rfl (lv_at hl 1 rfl) ?_
      refine lv_i2s hx hb dX0_cut_38 rfl ?_
      exact W.iret (v := (p2.toInt16.toInt32)) hx hb hr (fun t ht hW => ⟨⟨(p2.toInt16.toInt32), (), rfl, (by simp only [xF_cut, if_pos c2, if_neg c1]), trivial⟩, hS.F ht⟩) hS.2.2 dX0_cut_39
    · skip
      by_cases c3 : p1 = 2
      · refine lv_tableIn (tgt := 40) hx hb dX0_cut_1 (by rw [c3]; decide) (by rw [c3]; decide) (by rw [c3]; rfl) (by decide) ?_
        refine lv_iload_n hx hb dX0_cut_40 rfl (lv_at hl 1 rfl) ?_
        refine lv_ldc (v := (-2000000)) hx hb hown hk119 dX0_cut_41 ?_
        refine lv_ldc (v := 2000000) hx hb hown hk120 dX0_cut_43 ?_
        refine va_calli (va_runS (As := [.int p2, .int (-2000000), .int 2000000]) (rest := []) ⟨hx, hb, hml, hown, hts⟩ (c_X0_nearest l p2 (-2000000) 2000000) (va_cwS 3 hts gX0_cut_X0_nearest rfl rfl rfl hdX0_nearest ⟨Nat.le_of_ble_eq_true rfl, Nat.le_of_ble_eq_true rfl⟩) pPreS rfl rfl hl.1 rfl (lv_room (Nat.le_of_ble_eq_true rfl)) dX0_cut_45 ⟨Nat.zero_le _, Nat.zero_le _⟩) hS (fun q _ h => h.elim) (fun q h => h.elim) (fun r4 u4 t H1 locs ht hvm hw4 hB hz1 hk1 hS => ?_)
        exact W.iret (v := r4) hx hb hr (fun t ht hW => ⟨⟨r4, (), rfl, (by simp only [xF_cut, if_pos c3, if_neg c1, if_neg c2, hw4]), trivial⟩, hS.F ht⟩) hS.2.2 dX0_cut_48
      · skip
        by_cases c5 : p1 = 3
        · refine lv_tableIn (tgt := 49) hx hb dX0_cut_1 (by rw [c5]; decide) (by rw [c5]; decide) (by rw [c5]; rfl) (by decide) ?_
          refine lv_iload_n hx hb dX0_cut_49 rfl (lv_at hl 1 rfl) ?_
          refine lv_iconst (v := 1) hx hb dX0_cut_50 (by decide) ?_
          refine lv_iand hx hb dX0_cut_51 ?_
          exact W.iret (v := (p2 &&& 1)) hx hb hr (fun t ht hW => ⟨⟨(p2 &&& 1), (), rfl, (by simp only [xF_cut, if_pos c5, if_neg c1, if_neg c2, if_neg c3]), trivial⟩, hS.F ht⟩) hS.2.2 dX0_cut_52
        · skip
          have nc1 := lv_neT c1 (a := 0) (by decide)
          have nc2 := lv_neT c2 (a := 1) (by decide)
          have nc3 := lv_neT c3 (a := 2) (by decide)
          have nc5 := lv_neT c5 (a := 3) (by decide)
          refine lv_tableOut (tgt := 53) hx hb dX0_cut_1 (by omega) (by decide) ?_
          refine lv_iload_n hx hb dX0_cut_53 rfl (lv_at hl 1 rfl) ?_
          refine lv_i2b hx hb dX0_cut_54 rfl ?_
          exact W.iret (v := (p2.toInt8.toInt32)) hx hb hr (fun t ht hW => ⟨⟨(p2.toInt8.toInt32), (), rfl, (by simp only [xF_cut, if_neg c1, if_neg c2, if_neg c3, if_neg c5]), trivial⟩, hS.F ht⟩) hS.2.2 dX0_cut_55
def xF_told (p1 p2 : Int32) : Int32 := (if p1 = 2 then (xF_nearest p2 (-16000) 16000) else p2)
theorem hdX0_told : yX0_told.cls ≠ "java/lang/invoke/MethodHandle" ∧ yX0_told.cls ≠ "java/lang/invoke/VarHandle" ∧ (parseMethodDescriptor yX0_told.desc).map (fun d => d.parameters.length) = some 2 := by decide +kernel
set_option maxHeartbeats 4000000 in
set_option maxRecDepth 100000 in
theorem c_X0_told (l : Launch) (p1 p2 : Int32) : Met l yX0_told wsX0_told ({ frames := 2, cells := 0, slots := 0, locals := 42 }) (va_Pc [.int p1, .int p2] (fun _ => True)) (pQi (xF_told p1 p2)) 0 0 (fun _ => False) := by
  refine Met.ofW (cc := cX0_told) (maxL := 2) (ret := (some .int)) (by decide) rfl ?_
  intro p e s m args below meth c s₁ B hml hv
  obtain ⟨rfl, -⟩ := hv
  have hx := B.exec
  have hb := B.bytes
  have hr := B.returns
  have hts := atoms_spec (ws := wsX0_told) B.pre
  have hown : s.vm.findClass RX0 = some m.cls := findClass_of_methodNamed B.named
  have hlocks := B.notSynchronized
  have hS : va_S (fun _ => False) s.heap s.heap [] := va_S.rf
  have hl := lv_entry ([.int p1, .int p2]) (n := 2) (Nat.le_of_ble_eq_true rfl)
  rw [lg_entry_eq]
  generalize (lg_sl ([.int p1, .int p2]) ++ List.replicate (2 - (lg_sl ([.int p1, .int p2])).length) Slot.unset).toArray = ls at hl ⊢
  have hl : lv_has ls 2 [(0, .int p1), (1, .int p2)] := hl
  refine lv_iload_n hx hb dX0_told_0 rfl (lv_at hl 0 rfl) ?_
  refine lv_iconst (v := 2) hx hb dX0_told_1 (by decide) ?_
  refine lv_icmp_ne (tgt := 18) hx hb dX0_told_2 (by decide) (fun c1 => ?_) (fun c1 => ?_)
  · refine lv_iload_n hx hb dX0_told_18 rfl (lv_at hl 1 rfl) ?_
    exact W.iret (v := p2) hx hb hr (fun t ht hW => ⟨⟨p2, (), rfl, (by simp only [xF_told, if_neg c1]), trivial⟩, hS.F ht⟩) hS.2.2 dX0_told_19
  · refine lv_iload_n hx hb dX0_told_5 rfl (lv_at hl 1 rfl) ?_
    refine lv_sipush (v := (-16000)) hx hb dX0_told_6 (by decide) ?_
    refine lv_sipush (v := 16000) hx hb dX0_told_9 (by decide) ?_
    refine va_calli (va_runS (As := [.int p2, .int (-16000), .int 16000]) (rest := []) ⟨hx, hb, hml, hown, hts⟩ (c_X0_nearest l p2 (-16000) 16000) (va_cwS 3 hts gX0_told_X0_nearest rfl rfl rfl hdX0_nearest ⟨Nat.le_of_ble_eq_true rfl, Nat.le_of_ble_eq_true rfl⟩) pPreS rfl rfl hl.1 rfl (lv_room (Nat.le_of_ble_eq_true rfl)) dX0_told_12 ⟨Nat.zero_le _, Nat.zero_le _⟩) hS (fun q _ h => h.elim) (fun q h => h.elim) (fun r2 u2 t H1 locs ht hvm hw2 hB hz1 hk1 hS => ?_)
    refine lv_goto (tgt := 19) hx hb dX0_told_15 (by decide) ?_
    exact W.iret (v := r2) hx hb hr (fun t ht hW => ⟨⟨r2, (), rfl, (by simp only [xF_told, if_pos c1, hw2]), trivial⟩, hS.F ht⟩) hS.2.2 dX0_told_19
def xF_changed (p1 p2 p3 p4 : Int32) : Int32 := (if p1 = 3 then (xF_changedGate p2 p3 p4) else (if p1 = 2 then (if p3 = 0 then (p2 + p4) else (if p3 = 1 then (p2 - p4) else (if p3 = 2 then (p2 + 8) else (p2 - 8)))) else (if p3 = 0 then (p2 + p4) else (if p3 = 1 then (p2 - p4) else (if p3 = 2 then (p2 + 1) else (p2 - 1))))))
theorem hdX0_changed : yX0_changed.cls ≠ "java/lang/invoke/MethodHandle" ∧ yX0_changed.cls ≠ "java/lang/invoke/VarHandle" ∧ (parseMethodDescriptor yX0_changed.desc).map (fun d => d.parameters.length) = some 4 := by decide +kernel
set_option maxHeartbeats 4000000 in
set_option maxRecDepth 100000 in
theorem c_X0_changed (l : Launch) (p1 p2 p3 p4 : Int32) : Met l yX0_changed wsX0_changed ({ frames := 1, cells := 0, slots := 0, locals := 22 }) (va_Pc [.int p1, .int p2, .int p3, .int p4] (fun _ => True)) (pQi (xF_changed p1 p2 p3 p4)) 0 0 (fun _ => False) := by
  refine Met.ofW (cc := cX0_changed) (maxL := 5) (ret := (some .int)) (by decide) rfl ?_
  intro p e s m args below meth c s₁ B hml hv
  obtain ⟨rfl, -⟩ := hv
  have hx := B.exec
  have hb := B.bytes
  have hr := B.returns
  have hts := atoms_spec (ws := wsX0_changed) B.pre
  have hown : s.vm.findClass RX0 = some m.cls := findClass_of_methodNamed B.named
  have hlocks := B.notSynchronized
  have hS : va_S (fun _ => False) s.heap s.heap [] := va_S.rf
  have hl := lv_entry ([.int p1, .int p2, .int p3, .int p4]) (n := 5) (Nat.le_of_ble_eq_true rfl)
  rw [lg_entry_eq]
  generalize (lg_sl ([.int p1, .int p2, .int p3, .int p4]) ++ List.replicate (5 - (lg_sl ([.int p1, .int p2, .int p3, .int p4])).length) Slot.unset).toArray = ls at hl ⊢
  have hl : lv_has ls 5 [(0, .int p1), (1, .int p2), (2, .int p3), (3, .int p4)] := hl
  refine lv_iload_n hx hb dX0_changed_0 rfl (lv_at hl 0 rfl) ?_
  refine lv_iconst (v := 3) hx hb dX0_changed_1 (by decide) ?_
  refine lv_icmp_ne (tgt := 12) hx hb dX0_changed_2 (by decide) (fun c1 => ?_) (fun c1 => ?_)
  · refine lv_iload_n hx hb dX0_changed_12 rfl (lv_at hl 0 rfl) ?_
    refine lv_iconst (v := 2) hx hb dX0_changed_13 (by decide) ?_
    refine lv_icmp_ne (tgt := 22) hx hb dX0_changed_14 (by decide) (fun c2 => ?_) (fun c2 => ?_)
    · refine lv_iconst (v := 1) hx hb dX0_changed_22 (by decide) ?_
      refine lv_istore (lv' := [(4, .int 1), (0, .int p1), (1, .int p2), (2, .int p3), (3, .int p4)]) hx hb dX0_changed_23 hl (by decide) rfl (fun ls hl => ?_)
      refine lv_iload_n hx hb dX0_changed_25 rfl (lv_at hl 3 rfl) ?_
      by_cases c3 : p3 = 0
      · refine lv_tableIn (tgt := 52) hx hb dX0_changed_26 (by rw [c3]; decide) (by rw [c3]; decide) (by rw [c3]; rfl) (by decide) ?_
        refine lv_iload_n hx hb dX0_changed_52 rfl (lv_at hl 2 rfl) ?_
        refine lv_iload_n hx hb dX0_changed_53 rfl (lv_at hl 4 rfl) ?_
        refine lv_iadd hx hb dX0_changed_54 ?_
        exact W.iret (v := (p2 + p4)) hx hb hr (fun t ht hW => ⟨⟨(p2 + p4), (), rfl, (by simp only [xF_changed, if_neg c1, if_neg c2, if_pos c3]), trivial⟩, hS.F ht⟩) hS.2.2 dX0_changed_55
      · skip
        by_cases c4 : p3 = 1
        · refine lv_tableIn (tgt := 56) hx hb dX0_changed_26 (by rw [c4]; decide) (by rw [c4]; decide) (by rw [c4]; rfl) (by decide) ?_
          refine lv_iload_n hx hb dX0_changed_56 rfl (lv_at hl 2 rfl) ?_
          refine lv_iload_n hx hb dX0_changed_57 rfl (lv_at hl 4 rfl) ?_
          refine lv_isub hx hb dX0_changed_58 ?_
          exact W.iret (v := (p2 - p4)) hx hb hr (fun t ht hW => ⟨⟨(p2 - p4), (), rfl, (by simp only [xF_changed, if_neg c1, if_neg c2, if_pos c4, if_neg c3]), trivial⟩, hS.F ht⟩) hS.2.2 dX0_changed_59
        · skip
          by_cases c5 : p3 = 2
          · refine lv_tableIn (tgt := 60) hx hb dX0_changed_26 (by rw [c5]; decide) (by rw [c5]; decide) (by rw [c5]; rfl) (by decide) ?_
            refine lv_iload_n hx hb dX0_changed_60 rfl (lv_at hl 2 rfl) ?_
            refine lv_iload hx hb dX0_changed_61 (lv_at hl 0 rfl) ?_
            refine lv_iadd hx hb dX0_changed_63 ?_
            exact W.iret (v := (p2 + 1)) hx hb hr (fun t ht hW => ⟨⟨(p2 + 1), (), rfl, (by simp only [xF_changed, if_neg c1, if_neg c2, if_pos c5, if_neg c3, if_neg c4]), trivial⟩, hS.F ht⟩) hS.2.2 dX0_changed_64
          · skip
            have nc3 := lv_neT c3 (a := 0) (by decide)
            have nc4 := lv_neT c4 (a := 1) (by decide)
            have nc5 := lv_neT c5 (a := 2) (by decide)
            refine lv_tableOut (tgt := 65) hx hb dX0_changed_26 (by omega) (by decide) ?_
            refine lv_iload_n hx hb dX0_changed_65 rfl (lv_at hl 2 rfl) ?_
            refine lv_iload hx hb dX0_changed_66 (lv_at hl 0 rfl) ?_
            refine lv_isub hx hb dX0_changed_68 ?_
            exact W.iret (v := (p2 - 1)) hx hb hr (fun t ht hW => ⟨⟨(p2 - 1), (), rfl, (by simp only [xF_changed, if_neg c1, if_neg c2, if_neg c3, if_neg c4, if_neg c5]), trivial⟩, hS.F ht⟩) hS.2.2 dX0_changed_69
    · refine lv_bipush (v := 8) hx hb dX0_changed_17 (by decide) ?_
      refine lv_goto (tgt := 23) hx hb dX0_changed_19 (by decide) ?_
      refine lv_istore (lv' := [(4, .int 8), (0, .int p1), (1, .int p2), (2, .int p3), (3, .int p4)]) hx hb dX0_changed_23 hl (by decide) rfl (fun ls hl => ?_)
      refine lv_iload_n hx hb dX0_changed_25 rfl (lv_at hl 3 rfl) ?_
      by_cases c6 : p3 = 0
      · refine lv_tableIn (tgt := 52) hx hb dX0_changed_26 (by rw [c6]; decide) (by rw [c6]; decide) (by rw [c6]; rfl) (by decide) ?_
        refine lv_iload_n hx hb dX0_changed_52 rfl (lv_at hl 2 rfl) ?_
        refine lv_iload_n hx hb dX0_changed_53 rfl (lv_at hl 4 rfl) ?_
        refine lv_iadd hx hb dX0_changed_54 ?_
        exact W.iret (v := (p2 + p4)) hx hb hr (fun t ht hW => ⟨⟨(p2 + p4), (), rfl, (by simp only [xF_changed, if_neg c1, if_pos c2, if_pos c6]), trivial⟩, hS.F ht⟩) hS.2.2 dX0_changed_55
      · skip
        by_cases c7 : p3 = 1
        · refine lv_tableIn (tgt := 56) hx hb dX0_changed_26 (by rw [c7]; decide) (by rw [c7]; decide) (by rw [c7]; rfl) (by decide) ?_
          refine lv_iload_n hx hb dX0_changed_56 rfl (lv_at hl 2 rfl) ?_
          refine lv_iload_n hx hb dX0_changed_57 rfl (lv_at hl 4 rfl) ?_
          refine lv_isub hx hb dX0_changed_58 ?_
          exact W.iret (v := (p2 - p4)) hx hb hr (fun t ht hW => ⟨⟨(p2 - p4), (), rfl, (by simp only [xF_changed, if_neg c1, if_pos c2, if_pos c7, if_neg c6]), trivial⟩, hS.F ht⟩) hS.2.2 dX0_changed_59
        · skip
          by_cases c8 : p3 = 2
          · refine lv_tableIn (tgt := 60) hx hb dX0_changed_26 (by rw [c8]; decide) (by rw [c8]; decide) (by rw [c8]; rfl) (by decide) ?_
            refine lv_iload_n hx hb dX0_changed_60 rfl (lv_at hl 2 rfl) ?_
            refine lv_iload hx hb dX0_changed_61 (lv_at hl 0 rfl) ?_
            refine lv_iadd hx hb dX0_changed_63 ?_
            exact W.iret (v := (p2 + 8)) hx hb hr (fun t ht hW => ⟨⟨(p2 + 8), (), rfl, (by simp only [xF_changed, if_neg c1, if_pos c2, if_pos c8, if_neg c6, if_neg c7]), trivial⟩, hS.F ht⟩) hS.2.2 dX0_changed_64
          · skip
            have nc6 := lv_neT c6 (a := 0) (by decide)
            have nc7 := lv_neT c7 (a := 1) (by decide)
            have nc8 := lv_neT c8 (a := 2) (by decide)
            refine lv_tableOut (tgt := 65) hx hb dX0_changed_26 (by omega) (by decide) ?_
            refine lv_iload_n hx hb dX0_changed_65 rfl (lv_at hl 2 rfl) ?_
            refine lv_iload hx hb dX0_changed_66 (lv_at hl 0 rfl) ?_
            refine lv_isub hx hb dX0_changed_68 ?_
            exact W.iret (v := (p2 - 8)) hx hb hr (fun t ht hW => ⟨⟨(p2 - 8), (), rfl, (by simp only [xF_changed, if_neg c1, if_pos c2, if_neg c6, if_neg c7, if_neg c8]), trivial⟩, hS.F ht⟩) hS.2.2 dX0_changed_69
  · refine lv_iload_n hx hb dX0_changed_5 rfl (lv_at hl 1 rfl) ?_
    refine lv_iload_n hx hb dX0_changed_6 rfl (lv_at hl 2 rfl) ?_
    refine lv_iload_n hx hb dX0_changed_7 rfl (lv_at hl 3 rfl) ?_
    refine va_calli (va_runS (As := [.int p2, .int p3, .int p4]) (rest := []) ⟨hx, hb, hml, hown, hts⟩ (c_X0_changedGate l p2 p3 p4) (va_cwS 3 hts gX0_changed_X0_changedGate rfl rfl rfl hdX0_changedGate ⟨Nat.le_of_ble_eq_true rfl, Nat.le_of_ble_eq_true rfl⟩) pPreS rfl rfl hl.1 rfl (lv_room (Nat.le_of_ble_eq_true rfl)) dX0_changed_8 ⟨Nat.zero_le _, Nat.zero_le _⟩) hS (fun q _ h => h.elim) (fun q h => h.elim) (fun r9 u9 t H1 locs ht hvm hw9 hB hz1 hk1 hS => ?_)
    exact W.iret (v := r9) hx hb hr (fun t ht hW => ⟨⟨r9, (), rfl, (by simp only [xF_changed, if_pos c1, hw9]), trivial⟩, hS.F ht⟩) hS.2.2 dX0_changed_11
def xF_isChamber (S : XS) (p1 : Int32) : Int32 := (if p1 < 0 then 0 else (if (xN S) ≤ p1 then 0 else 1))
theorem hdX0_isChamber : yX0_isChamber.cls = RX0 ∧ yX0_isChamber.cls ≠ "java/lang/invoke/MethodHandle" ∧ yX0_isChamber.cls ≠ "java/lang/invoke/VarHandle" ∧ (parseMethodDescriptor yX0_isChamber.desc).map (fun d => d.parameters.length) = some 1 := by decide +kernel
set_option maxHeartbeats 4000000 in
set_option maxRecDepth 100000 in
theorem c_X0_isChamber (l : Launch) (D : va_G) (a : XA) (hO : xOk a) (S : XS) (p1 : Int32) : Met l yX0_isChamber wsX0_isChamber ({ frames := 0, cells := 0, slots := 0, locals := 0 }) (va_Pc [.ref (xa a), .int p1] (xB D a S)) (va_Qi (fun (r : Int32) (u : XS) => xF_isChamber S p1 = r ∧ u = S) (xB D a) (xA a)) 0 0 (xA a) := by
  refine Met.ofW (cc := cX0_isChamber) (maxL := 2) (ret := (some .boolean)) (by decide) rfl ?_
  intro p e s m args below meth c s₁ B hml hv
  obtain ⟨rfl, hP, hK⟩ := hv
  have hx := B.exec
  have hb := B.bytes
  have hr := B.returns
  have hts := atoms_spec (ws := wsX0_isChamber) B.pre
  have hown : s.vm.findClass RX0 = some m.cls := findClass_of_methodNamed B.named
  have hlocks := B.notSynchronized
  have hS : va_S (xA a) s.heap s.heap [] := va_S.rf
  have hP : va_P D vwCl (xW a S) s.heap := hP
  have hu : ∀ w ∈ wsX00, w ∈ wsX0_isChamber := fun _ h => List.mem_cons_of_mem _ (List.mem_append_right _ h)
  have hf44 := hts (.fieldLink RX0 44 "FlightBooks" "chamberCount" "I") (by decide +kernel)
  have hl := lv_entry ([.ref (xa a), .int p1]) (n := 2) (Nat.le_of_ble_eq_true rfl)
  rw [lg_entry_eq]
  generalize (lg_sl ([.ref (xa a), .int p1]) ++ List.replicate (2 - (lg_sl ([.ref (xa a), .int p1])).length) Slot.unset).toArray = ls at hl ⊢
  have hl : lv_has ls 2 [(0, .ref (xa a)), (1, .int p1)] := hl
  refine lv_iload_n hx hb dX0_isChamber_0 rfl (lv_at hl 1 rfl) ?_
  refine lv_if_lt (tgt := 16) hx hb dX0_isChamber_1 (by decide) (fun c1 => ?_) (fun c1 => ?_)
  · refine lv_iconst (v := 0) hx hb dX0_isChamber_16 (by decide) ?_
    exact W.zret (v := 0) hx hb hr rfl (fun t ht hW => ⟨⟨0, S, rfl, ⟨(by simp only [xF_isChamber, if_pos c1]), rfl⟩, by rw [ht]; exact hP, va_K.moved hW.alike hK⟩, hS.F ht⟩) hS.2.2 dX0_isChamber_17
  · refine lv_iload_n hx hb dX0_isChamber_4 rfl (lv_at hl 1 rfl) ?_
    refine lv_aload_n hx hb dX0_isChamber_5 rfl (lv_at hl 0 rfl) ?_
    refine x_get hx hb hts hu hown hK hP 0 (by decide) hf44 rfl (v := .int (xN S)) rfl dX0_isChamber_6 ?_
    refine lv_icmp_ge (tgt := 16) hx hb dX0_isChamber_9 (by decide) (fun c2 => ?_) (fun c2 => ?_)
    · refine lv_iconst (v := 0) hx hb dX0_isChamber_16 (by decide) ?_
      exact W.zret (v := 0) hx hb hr rfl (fun t ht hW => ⟨⟨0, S, rfl, ⟨(by simp only [xF_isChamber, if_neg c1, if_pos c2]), rfl⟩, by rw [ht]; exact hP, va_K.moved hW.alike hK⟩, hS.F ht⟩) hS.2.2 dX0_isChamber_17
    · refine lv_iconst (v := 1) hx hb dX0_isChamber_12 (by decide) ?_
      refine lv_goto (tgt := 17) hx hb dX0_isChamber_13 (by decide) ?_
      exact W.zret (v := 1) hx hb hr rfl (fun t ht hW => ⟨⟨1, S, rfl, ⟨(by simp only [xF_isChamber, if_neg c1, if_neg c2]), rfl⟩, by rw [ht]; exact hP, va_K.moved hW.alike hK⟩, hS.F ht⟩) hS.2.2 dX0_isChamber_17
def xF_isLast (S : XS) (p1 : Int32) : Int32 := (if p1 = ((xN S) - 1) then 1 else 0)
theorem hdX0_isLast : yX0_isLast.cls = RX0 ∧ yX0_isLast.cls ≠ "java/lang/invoke/MethodHandle" ∧ yX0_isLast.cls ≠ "java/lang/invoke/VarHandle" ∧ (parseMethodDescriptor yX0_isLast.desc).map (fun d => d.parameters.length) = some 1 := by decide +kernel
set_option maxHeartbeats 4000000 in
set_option maxRecDepth 100000 in
theorem c_X0_isLast (l : Launch) (D : va_G) (a : XA) (hO : xOk a) (S : XS) (p1 : Int32) : Met l yX0_isLast wsX0_isLast ({ frames := 0, cells := 0, slots := 0, locals := 0 }) (va_Pc [.ref (xa a), .int p1] (xB D a S)) (va_Qi (fun (r : Int32) (u : XS) => xF_isLast S p1 = r ∧ u = S) (xB D a) (xA a)) 0 0 (xA a) := by
  refine Met.ofW (cc := cX0_isLast) (maxL := 2) (ret := (some .boolean)) (by decide) rfl ?_
  intro p e s m args below meth c s₁ B hml hv
  obtain ⟨rfl, hP, hK⟩ := hv
  have hx := B.exec
  have hb := B.bytes
  have hr := B.returns
  have hts := atoms_spec (ws := wsX0_isLast) B.pre
  have hown : s.vm.findClass RX0 = some m.cls := findClass_of_methodNamed B.named
  have hlocks := B.notSynchronized
  have hS : va_S (xA a) s.heap s.heap [] := va_S.rf
  have hP : va_P D vwCl (xW a S) s.heap := hP
  have hu : ∀ w ∈ wsX00, w ∈ wsX0_isLast := fun _ h => List.mem_cons_of_mem _ (List.mem_append_right _ h)
  have hf44 := hts (.fieldLink RX0 44 "FlightBooks" "chamberCount" "I") (by decide +kernel)
  have hl := lv_entry ([.ref (xa a), .int p1]) (n := 2) (Nat.le_of_ble_eq_true rfl)
  rw [lg_entry_eq]
  generalize (lg_sl ([.ref (xa a), .int p1]) ++ List.replicate (2 - (lg_sl ([.ref (xa a), .int p1])).length) Slot.unset).toArray = ls at hl ⊢
  have hl : lv_has ls 2 [(0, .ref (xa a)), (1, .int p1)] := hl
  refine lv_iload_n hx hb dX0_isLast_0 rfl (lv_at hl 1 rfl) ?_
  refine lv_aload_n hx hb dX0_isLast_1 rfl (lv_at hl 0 rfl) ?_
  refine x_get hx hb hts hu hown hK hP 0 (by decide) hf44 rfl (v := .int (xN S)) rfl dX0_isLast_2 ?_
  refine lv_iconst (v := 1) hx hb dX0_isLast_5 (by decide) ?_
  refine lv_isub hx hb dX0_isLast_6 ?_
  refine lv_icmp_ne (tgt := 14) hx hb dX0_isLast_7 (by decide) (fun c1 => ?_) (fun c1 => ?_)
  · refine lv_iconst (v := 0) hx hb dX0_isLast_14 (by decide) ?_
    exact W.zret (v := 0) hx hb hr rfl (fun t ht hW => ⟨⟨0, S, rfl, ⟨(by simp only [xF_isLast, if_neg c1]), rfl⟩, by rw [ht]; exact hP, va_K.moved hW.alike hK⟩, hS.F ht⟩) hS.2.2 dX0_isLast_15
  · refine lv_iconst (v := 1) hx hb dX0_isLast_10 (by decide) ?_
    refine lv_goto (tgt := 15) hx hb dX0_isLast_11 (by decide) ?_
    exact W.zret (v := 1) hx hb hr rfl (fun t ht hW => ⟨⟨1, S, rfl, ⟨(by simp only [xF_isLast, if_pos c1]), rfl⟩, by rw [ht]; exact hP, va_K.moved hW.alike hK⟩, hS.F ht⟩) hS.2.2 dX0_isLast_15
def xF_ended (S : XS) (p1 : Int32) : Int32 × XS := (1, (xsLf (xsFc S ((xFc S) + 1)) p1))
theorem hdX0_ended : yX0_ended.cls = RX0 ∧ yX0_ended.cls ≠ "java/lang/invoke/MethodHandle" ∧ yX0_ended.cls ≠ "java/lang/invoke/VarHandle" ∧ (parseMethodDescriptor yX0_ended.desc).map (fun d => d.parameters.length) = some 1 := by decide +kernel
set_option maxHeartbeats 4000000 in
set_option maxRecDepth 100000 in
theorem c_X0_ended (l : Launch) (D : va_G) (a : XA) (hO : xOk a) (S : XS) (p1 : Int32) : Met l yX0_ended wsX0_ended ({ frames := 0, cells := 0, slots := 0, locals := 0 }) (va_Pc [.ref (xa a), .int p1] (xB D a S)) (xQi D a (xF_ended S p1)) 0 0 (xA a) := by
  refine Met.ofW (cc := cX0_ended) (maxL := 2) (ret := (some .boolean)) (by decide) rfl ?_
  intro p e s m args below meth c s₁ B hml hv
  obtain ⟨rfl, hP, hK⟩ := hv
  have hx := B.exec
  have hb := B.bytes
  have hr := B.returns
  have hts := atoms_spec (ws := wsX0_ended) B.pre
  have hown : s.vm.findClass RX0 = some m.cls := findClass_of_methodNamed B.named
  have hlocks := B.notSynchronized
  have hS : va_S (xA a) s.heap s.heap [] := va_S.rf
  have hP : va_P D vwCl (xW a S) s.heap := hP
  have hu : ∀ w ∈ wsX00, w ∈ wsX0_ended := fun _ h => List.mem_cons_of_mem _ (List.mem_append_right _ h)
  have hf34 := hts (.fieldLink RX0 34 "FlightBooks" "faultCount" "I") (by decide +kernel)
  have hf37 := hts (.fieldLink RX0 37 "FlightBooks" "latestFault" "I") (by decide +kernel)
  have hl := lv_entry ([.ref (xa a), .int p1]) (n := 2) (Nat.le_of_ble_eq_true rfl)
  rw [lg_entry_eq]
  generalize (lg_sl ([.ref (xa a), .int p1]) ++ List.replicate (2 - (lg_sl ([.ref (xa a), .int p1])).length) Slot.unset).toArray = ls at hl ⊢
  have hl : lv_has ls 2 [(0, .ref (xa a)), (1, .int p1)] := hl
  refine lv_aload_n hx hb dX0_ended_0 rfl (lv_at hl 0 rfl) ?_
  refine lv_dup hx hb dX0_ended_1 rfl ?_
  refine x_get hx hb hts hu hown hK hP 8 (by decide) hf34 rfl (v := .int (xFc S)) rfl dX0_ended_2 ?_
  refine lv_iconst (v := 1) hx hb dX0_ended_5 (by decide) ?_
  refine lv_iadd hx hb dX0_ended_6 ?_
  refine x_put hx hb hts hu hown hO hK hP hS 8 (by decide) hf34 rfl rfl (by decide +kernel) (xsFc S ((xFc S) + 1)) rfl rfl dX0_ended_7 (fun H locs hP hS => ?_)
  refine lv_aload_n hx hb dX0_ended_10 rfl (lv_at hl 0 rfl) ?_
  refine lv_iload_n hx hb dX0_ended_11 rfl (lv_at hl 1 rfl) ?_
  refine x_put hx hb hts hu hown hO hK hP hS 9 (by decide) hf37 rfl rfl (by decide +kernel) (xsLf (xsFc S ((xFc S) + 1)) p1) rfl rfl dX0_ended_12 (fun H locs hP hS => ?_)
  refine lv_iconst (v := 1) hx hb dX0_ended_15 (by decide) ?_
  exact W.zret (v := 1) hx hb hr rfl (fun t ht hW => ⟨⟨1, (xsLf (xsFc S ((xFc S) + 1)) p1), rfl, rfl, by rw [ht]; exact hP, va_K.moved hW.alike hK⟩, hS.F ht⟩) hS.2.2 dX0_ended_16
theorem xe_book {b r : Int32} (h : xF_isBook b = r) (c : ¬ r = 0) : vp_in b 5 := by
  unfold xF_isBook at h
  by_cases h1 : b < 0
  · rw [if_pos h1] at h; exact absurd h.symm c
  · rw [if_neg h1] at h
    by_cases h2 : (5 : Int32) ≤ b
    · rw [if_pos h2] at h; exact absurd h.symm c
    · exact in_of' (by decide) h1 h2
theorem xe_cham {S : XS} {b r : Int32} (hI : xI S) (h : xF_isChamber S b = r) (c : ¬ r = 0) : vp_in b 24 := by
  unfold xF_isChamber at h
  by_cases h1 : b < 0
  · rw [if_pos h1] at h; exact absurd h.symm c
  · rw [if_neg h1] at h
    by_cases h2 : xN S ≤ b
    · rw [if_pos h2] at h; exact absurd h.symm c
    · exact in_of' (by have := hI.2.1.2; omega) h1 h2
theorem xe_ended {S S1 : XS} {f r : Int32} (h : xF_ended S f = (r, S1)) : 1 = r := (Prod.mk.inj h).1
end
section
def xF_endsAtBook (S : XS) (p1 : Int32) : Int32 × XS := (if (xc S p1) = (-1) then (let q2 := xF_ended S ((-100000) - p1); (q2.1, q2.2)) else (0, S))
theorem hdX0_endsAtBook : yX0_endsAtBook.cls = RX0 ∧ yX0_endsAtBook.cls ≠ "java/lang/invoke/MethodHandle" ∧ yX0_endsAtBook.cls ≠ "java/lang/invoke/VarHandle" ∧ (parseMethodDescriptor yX0_endsAtBook.desc).map (fun d => d.parameters.length) = some 1 := by decide +kernel
set_option maxHeartbeats 4000000 in
set_option maxRecDepth 100000 in
theorem c_X0_endsAtBook (l : Launch) (D : va_G) (a : XA) (hO : xOk a) (S : XS) (p1 : Int32) (h5_0 : vp_in p1 5) : Met l yX0_endsAtBook wsX0_endsAtBook ({ frames := 1, cells := 0, slots := 0, locals := 21 }) (va_Pc [.ref (xa a), .int p1] (xB D a S)) (xQi D a (xF_endsAtBook S p1)) 0 0 (xA a) := by
  refine Met.ofW (cc := cX0_endsAtBook) (maxL := 2) (ret := (some .boolean)) (by decide) rfl ?_
  intro p e s m args below meth c s₁ B hml hv
  obtain ⟨rfl, hP, hK⟩ := hv
  have hx := B.exec
  have hb := B.bytes
  have hr := B.returns
  have hts := atoms_spec (ws := wsX0_endsAtBook) B.pre
  have hown : s.vm.findClass RX0 = some m.cls := findClass_of_methodNamed B.named
  have hlocks := B.notSynchronized
  have hS : va_S (xA a) s.heap s.heap [] := va_S.rf
  have hP : va_P D vwCl (xW a S) s.heap := hP
  have hu : ∀ w ∈ wsX00, w ∈ wsX0_endsAtBook := fun _ h => List.mem_cons_of_mem _ (List.mem_append_right _ h)
  have hf9 := hts (.fieldLink RX0 9 "FlightBooks" "lineCounts" "[I") (by decide +kernel)
  have hk110 := hts (.constant RX0 110 (-100000)) (by decide +kernel)
  have hl := lv_entry ([.ref (xa a), .int p1]) (n := 2) (Nat.le_of_ble_eq_true rfl)
  rw [lg_entry_eq]
  generalize (lg_sl ([.ref (xa a), .int p1]) ++ List.replicate (2 - (lg_sl ([.ref (xa a), .int p1])).length) Slot.unset).toArray = ls at hl ⊢
  have hl : lv_has ls 2 [(0, .ref (xa a)), (1, .int p1)] := hl
  refine lv_aload_n hx hb dX0_endsAtBook_0 rfl (lv_at hl 0 rfl) ?_
  refine x_get hx hb hts hu hown hK hP 1 (by decide) hf9 rfl (v := .ref (xac a)) rfl dX0_endsAtBook_1 ?_
  refine lv_iload_n hx hb dX0_endsAtBook_4 rfl (lv_at hl 1 rfl) ?_
  refine x_ldc hx hb hK hP h5_0 dX0_endsAtBook_5 ?_
  refine lv_iconst (v := (-1)) hx hb dX0_endsAtBook_6 (by decide) ?_
  refine lv_icmp_ne (tgt := 19) hx hb dX0_endsAtBook_7 (by decide) (fun c1 => ?_) (fun c1 => ?_)
  · refine lv_iconst (v := 0) hx hb dX0_endsAtBook_19 (by decide) ?_
    exact W.zret (v := 0) hx hb hr rfl (fun t ht hW => ⟨⟨0, S, rfl, (by simp only [xF_endsAtBook, if_neg c1]), by rw [ht]; exact hP, va_K.moved hW.alike hK⟩, hS.F ht⟩) hS.2.2 dX0_endsAtBook_20
  · refine lv_aload_n hx hb dX0_endsAtBook_10 rfl (lv_at hl 0 rfl) ?_
    refine lv_ldc (v := (-100000)) hx hb hown hk110 dX0_endsAtBook_11 ?_
    refine lv_iload_n hx hb dX0_endsAtBook_13 rfl (lv_at hl 1 rfl) ?_
    refine lv_isub hx hb dX0_endsAtBook_14 ?_
    refine va_calli (va_runV (As := [.int ((-100000) - p1)]) (rest := []) ⟨hx, hb, hml, hown, hts⟩ (c_X0_ended l D a hO S ((-100000) - p1)) (cwV 1 hts gX0_endsAtBook_X0_ended rfl rfl rfl hdX0_ended ⟨Nat.le_of_ble_eq_true rfl, Nat.le_of_ble_eq_true rfl⟩) (xPreV hK hP) rfl rfl hl.1 rfl (lv_room (Nat.le_of_ble_eq_true rfl)) dX0_endsAtBook_15 ⟨Nat.zero_le _, Nat.zero_le _⟩) hS (fun q _ h => h) (fun q h => h) (fun r2 S2 t H1 locs ht hvm hw2 hB hz1 hk1 hS => ?_)
    obtain ⟨hP, -⟩ := hB
    rw [ht] at hP
    have hone3 := xe_ended hw2
    subst hone3
    exact W.zret (v := 1) hx hb hr rfl (fun t ht hW => ⟨⟨1, S2, rfl, (by simp only [xF_endsAtBook, if_pos c1, hw2]), by rw [ht]; exact hP, va_K.moved hW.alike hK⟩, hS.F ht⟩) hS.2.2 dX0_endsAtBook_18
theorem xe_endsAtBook {S S1 : XS} {b r : Int32} (h : xF_endsAtBook S b = (r, S1)) (c : r = 0) : S = S1 := by
  unfold xF_endsAtBook at h
  by_cases h1 : xc S b = -1
  · rw [if_pos h1] at h; exact absurd ((Prod.mk.inj h).1.trans c) (by simp [xF_ended])
  · rw [if_neg h1] at h; exact (Prod.mk.inj h).2
def xF_endsAtLine (S : XS) (p1 p2 : Int32) : Int32 × XS := (let q1 := xF_endsAtBook S p1; (if q1.1 = 0 then (if p2 < 0 then (let q6 := xF_ended q1.2 ((-200000) - p1); (q6.1, q6.2)) else (if p2 < (xc q1.2 p1) then (0, q1.2) else (let q9 := xF_ended q1.2 ((-200000) - p1); (q9.1, q9.2)))) else (1, q1.2)))
theorem hdX0_endsAtLine : yX0_endsAtLine.cls = RX0 ∧ yX0_endsAtLine.cls ≠ "java/lang/invoke/MethodHandle" ∧ yX0_endsAtLine.cls ≠ "java/lang/invoke/VarHandle" ∧ (parseMethodDescriptor yX0_endsAtLine.desc).map (fun d => d.parameters.length) = some 2 := by decide +kernel
set_option maxHeartbeats 4000000 in
set_option maxRecDepth 100000 in
theorem c_X0_endsAtLine (l : Launch) (D : va_G) (a : XA) (hO : xOk a) (S : XS) (p1 p2 : Int32) (hI : xI S) (h5_0 : vp_in p1 5) : Met l yX0_endsAtLine wsX0_endsAtLine ({ frames := 2, cells := 0, slots := 0, locals := 42 }) (va_Pc [.ref (xa a), .int p1, .int p2] (xB D a S)) (xQi D a (xF_endsAtLine S p1 p2)) 0 0 (xA a) := by
  refine Met.ofW (cc := cX0_endsAtLine) (maxL := 3) (ret := (some .boolean)) (by decide) rfl ?_
  intro p e s m args below meth c s₁ B hml hv
  obtain ⟨rfl, hP, hK⟩ := hv
  have hx := B.exec
  have hb := B.bytes
  have hr := B.returns
  have hts := atoms_spec (ws := wsX0_endsAtLine) B.pre
  have hown : s.vm.findClass RX0 = some m.cls := findClass_of_methodNamed B.named
  have hlocks := B.notSynchronized
  have hS : va_S (xA a) s.heap s.heap [] := va_S.rf
  have hP : va_P D vwCl (xW a S) s.heap := hP
  have hu : ∀ w ∈ wsX00, w ∈ wsX0_endsAtLine := fun _ h => List.mem_cons_of_mem _ (List.mem_append_right _ h)
  have hk114 := hts (.constant RX0 114 (-200000)) (by decide +kernel)
  have hf9 := hts (.fieldLink RX0 9 "FlightBooks" "lineCounts" "[I") (by decide +kernel)
  have hl := lv_entry ([.ref (xa a), .int p1, .int p2]) (n := 3) (Nat.le_of_ble_eq_true rfl)
  rw [lg_entry_eq]
  generalize (lg_sl ([.ref (xa a), .int p1, .int p2]) ++ List.replicate (3 - (lg_sl ([.ref (xa a), .int p1, .int p2])).length) Slot.unset).toArray = ls at hl ⊢
  have hl : lv_has ls 3 [(0, .ref (xa a)), (1, .int p1), (2, .int p2)] := hl
  refine lv_aload_n hx hb dX0_endsAtLine_0 rfl (lv_at hl 0 rfl) ?_
  refine lv_iload_n hx hb dX0_endsAtLine_1 rfl (lv_at hl 1 rfl) ?_
  refine va_calli (va_runV (As := [.int p1]) (rest := []) ⟨hx, hb, hml, hown, hts⟩ (c_X0_endsAtBook l D a hO S p1 h5_0) (cwV 1 hts gX0_endsAtLine_X0_endsAtBook rfl rfl rfl hdX0_endsAtBook ⟨Nat.le_of_ble_eq_true rfl, Nat.le_of_ble_eq_true rfl⟩) (xPreV hK hP) rfl rfl hl.1 rfl (lv_room (Nat.le_of_ble_eq_true rfl)) dX0_endsAtLine_2 ⟨Nat.zero_le _, Nat.zero_le _⟩) hS (fun q _ h => h) (fun q h => h) (fun r1 S1 t H1 locs ht hvm hw1 hB hz1 hk1 hS => ?_)
  obtain ⟨hP, -⟩ := hB
  rw [ht] at hP
  refine lv_if_eq (tgt := 10) hx hb dX0_endsAtLine_5 (by decide) (fun c3 => ?_) (fun c3 => ?_)
  · have hs4 := xe_endsAtBook hw1 c3
    subst hs4
    refine lv_iload_n hx hb dX0_endsAtLine_10 rfl (lv_at hl 2 rfl) ?_
    refine lv_if_lt (tgt := 24) hx hb dX0_endsAtLine_11 (by decide) (fun c5 => ?_) (fun c5 => ?_)
    · refine lv_aload_n hx hb dX0_endsAtLine_24 rfl (lv_at hl 0 rfl) ?_
      refine lv_ldc (v := (-200000)) hx hb hown hk114 dX0_endsAtLine_25 ?_
      refine lv_iload_n hx hb dX0_endsAtLine_27 rfl (lv_at hl 1 rfl) ?_
      refine lv_isub hx hb dX0_endsAtLine_28 ?_
      refine va_calli (va_runV (As := [.int ((-200000) - p1)]) (rest := []) ⟨hx, hb, hml, hown, hts⟩ (c_X0_ended l D a hO S ((-200000) - p1)) (cwV 1 hts gX0_endsAtLine_X0_ended rfl rfl rfl hdX0_ended ⟨Nat.le_of_ble_eq_true rfl, Nat.le_of_ble_eq_true rfl⟩) (xPreV hK hP) rfl rfl hl.1 rfl (lv_room (Nat.le_of_ble_eq_true rfl)) dX0_endsAtLine_29 ⟨Nat.zero_le _, Nat.zero_le _⟩) hS (fun q _ h => h) (fun q h => h) (fun r6 S6 t H1 locs ht hvm hw6 hB hz1 hk1 hS => ?_)
      obtain ⟨hP, -⟩ := hB
      rw [ht] at hP
      have hone7 := xe_ended hw6
      subst hone7
      exact W.zret (v := 1) hx hb hr rfl (fun t ht hW => ⟨⟨1, S6, rfl, (by simp only [xF_endsAtLine, hw1, if_pos c3, if_pos c5, hw6]), by rw [ht]; exact hP, va_K.moved hW.alike hK⟩, hS.F ht⟩) hS.2.2 dX0_endsAtLine_32
    · refine lv_iload_n hx hb dX0_endsAtLine_14 rfl (lv_at hl 2 rfl) ?_
      refine lv_aload_n hx hb dX0_endsAtLine_15 rfl (lv_at hl 0 rfl) ?_
      refine x_get hx hb hts hu hown hK hP 1 (by decide) hf9 rfl (v := .ref (xac a)) rfl dX0_endsAtLine_16 ?_
      refine lv_iload_n hx hb dX0_endsAtLine_19 rfl (lv_at hl 1 rfl) ?_
      refine x_ldc hx hb hK hP h5_0 dX0_endsAtLine_20 ?_
      refine lv_icmp_lt (tgt := 33) hx hb dX0_endsAtLine_21 (by decide) (fun c8 => ?_) (fun c8 => ?_)
      · refine lv_iconst (v := 0) hx hb dX0_endsAtLine_33 (by decide) ?_
        exact W.zret (v := 0) hx hb hr rfl (fun t ht hW => ⟨⟨0, S, rfl, (by simp only [xF_endsAtLine, hw1, if_pos c3, if_neg c5, if_pos c8]), by rw [ht]; exact hP, va_K.moved hW.alike hK⟩, hS.F ht⟩) hS.2.2 dX0_endsAtLine_34
      · refine lv_aload_n hx hb dX0_endsAtLine_24 rfl (lv_at hl 0 rfl) ?_
        refine lv_ldc (v := (-200000)) hx hb hown hk114 dX0_endsAtLine_25 ?_
        refine lv_iload_n hx hb dX0_endsAtLine_27 rfl (lv_at hl 1 rfl) ?_
        refine lv_isub hx hb dX0_endsAtLine_28 ?_
        refine va_calli (va_runV (As := [.int ((-200000) - p1)]) (rest := []) ⟨hx, hb, hml, hown, hts⟩ (c_X0_ended l D a hO S ((-200000) - p1)) (cwV 1 hts gX0_endsAtLine_X0_ended rfl rfl rfl hdX0_ended ⟨Nat.le_of_ble_eq_true rfl, Nat.le_of_ble_eq_true rfl⟩) (xPreV hK hP) rfl rfl hl.1 rfl (lv_room (Nat.le_of_ble_eq_true rfl)) dX0_endsAtLine_29 ⟨Nat.zero_le _, Nat.zero_le _⟩) hS (fun q _ h => h) (fun q h => h) (fun r9 S9 t H1 locs ht hvm hw9 hB hz1 hk1 hS => ?_)
        obtain ⟨hP, -⟩ := hB
        rw [ht] at hP
        have hone10 := xe_ended hw9
        subst hone10
        exact W.zret (v := 1) hx hb hr rfl (fun t ht hW => ⟨⟨1, S9, rfl, (by simp only [xF_endsAtLine, hw1, if_pos c3, if_neg c5, if_neg c8, hw9]), by rw [ht]; exact hP, va_K.moved hW.alike hK⟩, hS.F ht⟩) hS.2.2 dX0_endsAtLine_32
  · refine lv_iconst (v := 1) hx hb dX0_endsAtLine_8 (by decide) ?_
    exact W.zret (v := 1) hx hb hr rfl (fun t ht hW => ⟨⟨1, S1, rfl, (by simp only [xF_endsAtLine, hw1, if_neg c3]), by rw [ht]; exact hP, va_K.moved hW.alike hK⟩, hS.F ht⟩) hS.2.2 dX0_endsAtLine_9
theorem xe_endsAtLine {S S1 : XS} {b i r : Int32} (hI : xI S) (h5 : vp_in b 5) (h : xF_endsAtLine S b i = (r, S1)) (c : r = 0) : vp_in i 24 ∧ S = S1 := by
  cases hq : xF_endsAtBook S b with
  | mk r2 S2 =>
    simp only [xF_endsAtLine, hq] at h
    by_cases h1 : r2 = 0
    · have e := xe_endsAtBook hq h1
      subst e
      rw [if_pos h1] at h
      by_cases h2 : i < 0
      · rw [if_pos h2] at h; exact absurd ((Prod.mk.inj h).1.trans c) (by simp [xF_ended])
      · rw [if_neg h2] at h
        by_cases h3 : i < xc S b
        · rw [if_pos h3] at h; exact ⟨in_of (hI.1 _ (vk_lt h5)).2 h2 h3, (Prod.mk.inj h).2⟩
        · rw [if_neg h3] at h; exact absurd ((Prod.mk.inj h).1.trans c) (by simp [xF_ended])
    · rw [if_neg h1] at h; exact absurd ((Prod.mk.inj h).1.trans c) (by decide)
def xF_endsAtRow (S : XS) (p1 : Int32) : Int32 × XS := (if (xRc S) = (-1) then (let q8 := xF_ended S (-100005); (q8.1, q8.2)) else (if p1 < 0 then (let q3 := xF_ended S (-200005); (q3.1, q3.2)) else (if p1 < (xRc S) then (0, S) else (let q6 := xF_ended S (-200005); (q6.1, q6.2)))))
theorem hdX0_endsAtRow : yX0_endsAtRow.cls = RX0 ∧ yX0_endsAtRow.cls ≠ "java/lang/invoke/MethodHandle" ∧ yX0_endsAtRow.cls ≠ "java/lang/invoke/VarHandle" ∧ (parseMethodDescriptor yX0_endsAtRow.desc).map (fun d => d.parameters.length) = some 1 := by decide +kernel
set_option maxHeartbeats 4000000 in
set_option maxRecDepth 100000 in
theorem c_X0_endsAtRow (l : Launch) (D : va_G) (a : XA) (hO : xOk a) (S : XS) (p1 : Int32) : Met l yX0_endsAtRow wsX0_endsAtRow ({ frames := 1, cells := 0, slots := 0, locals := 21 }) (va_Pc [.ref (xa a), .int p1] (xB D a S)) (xQi D a (xF_endsAtRow S p1)) 0 0 (xA a) := by
  refine Met.ofW (cc := cX0_endsAtRow) (maxL := 2) (ret := (some .boolean)) (by decide) rfl ?_
  intro p e s m args below meth c s₁ B hml hv
  obtain ⟨rfl, hP, hK⟩ := hv
  have hx := B.exec
  have hb := B.bytes
  have hr := B.returns
  have hts := atoms_spec (ws := wsX0_endsAtRow) B.pre
  have hown : s.vm.findClass RX0 = some m.cls := findClass_of_methodNamed B.named
  have hlocks := B.notSynchronized
  have hS : va_S (xA a) s.heap s.heap [] := va_S.rf
  have hP : va_P D vwCl (xW a S) s.heap := hP
  have hu : ∀ w ∈ wsX00, w ∈ wsX0_endsAtRow := fun _ h => List.mem_cons_of_mem _ (List.mem_append_right _ h)
  have hf21 := hts (.fieldLink RX0 21 "FlightBooks" "rowCount" "I") (by decide +kernel)
  have hk116 := hts (.constant RX0 116 (-200005)) (by decide +kernel)
  have hk115 := hts (.constant RX0 115 (-100005)) (by decide +kernel)
  have hl := lv_entry ([.ref (xa a), .int p1]) (n := 2) (Nat.le_of_ble_eq_true rfl)
  rw [lg_entry_eq]
  generalize (lg_sl ([.ref (xa a), .int p1]) ++ List.replicate (2 - (lg_sl ([.ref (xa a), .int p1])).length) Slot.unset).toArray = ls at hl ⊢
  have hl : lv_has ls 2 [(0, .ref (xa a)), (1, .int p1)] := hl
  refine lv_aload_n hx hb dX0_endsAtRow_0 rfl (lv_at hl 0 rfl) ?_
  refine x_get hx hb hts hu hown hK hP 4 (by decide) hf21 rfl (v := .int (xRc S)) rfl dX0_endsAtRow_1 ?_
  refine lv_iconst (v := (-1)) hx hb dX0_endsAtRow_4 (by decide) ?_
  refine lv_icmp_ne (tgt := 15) hx hb dX0_endsAtRow_5 (by decide) (fun c1 => ?_) (fun c1 => ?_)
  · refine lv_iload_n hx hb dX0_endsAtRow_15 rfl (lv_at hl 1 rfl) ?_
    refine lv_if_lt (tgt := 27) hx hb dX0_endsAtRow_16 (by decide) (fun c2 => ?_) (fun c2 => ?_)
    · refine lv_aload_n hx hb dX0_endsAtRow_27 rfl (lv_at hl 0 rfl) ?_
      refine lv_ldc (v := (-200005)) hx hb hown hk116 dX0_endsAtRow_28 ?_
      refine va_calli (va_runV (As := [.int (-200005)]) (rest := []) ⟨hx, hb, hml, hown, hts⟩ (c_X0_ended l D a hO S (-200005)) (cwV 1 hts gX0_endsAtRow_X0_ended rfl rfl rfl hdX0_ended ⟨Nat.le_of_ble_eq_true rfl, Nat.le_of_ble_eq_true rfl⟩) (xPreV hK hP) rfl rfl hl.1 rfl (lv_room (Nat.le_of_ble_eq_true rfl)) dX0_endsAtRow_30 ⟨Nat.zero_le _, Nat.zero_le _⟩) hS (fun q _ h => h) (fun q h => h) (fun r3 S3 t H1 locs ht hvm hw3 hB hz1 hk1 hS => ?_)
      obtain ⟨hP, -⟩ := hB
      rw [ht] at hP
      have hone4 := xe_ended hw3
      subst hone4
      exact W.zret (v := 1) hx hb hr rfl (fun t ht hW => ⟨⟨1, S3, rfl, (by simp only [xF_endsAtRow, if_neg c1, if_pos c2, hw3]), by rw [ht]; exact hP, va_K.moved hW.alike hK⟩, hS.F ht⟩) hS.2.2 dX0_endsAtRow_33
    · refine lv_iload_n hx hb dX0_endsAtRow_19 rfl (lv_at hl 1 rfl) ?_
      refine lv_aload_n hx hb dX0_endsAtRow_20 rfl (lv_at hl 0 rfl) ?_
      refine x_get hx hb hts hu hown hK hP 4 (by decide) hf21 rfl (v := .int (xRc S)) rfl dX0_endsAtRow_21 ?_
      refine lv_icmp_lt (tgt := 34) hx hb dX0_endsAtRow_24 (by decide) (fun c5 => ?_) (fun c5 => ?_)
      · refine lv_iconst (v := 0) hx hb dX0_endsAtRow_34 (by decide) ?_
        exact W.zret (v := 0) hx hb hr rfl (fun t ht hW => ⟨⟨0, S, rfl, (by simp only [xF_endsAtRow, if_neg c1, if_neg c2, if_pos c5]), by rw [ht]; exact hP, va_K.moved hW.alike hK⟩, hS.F ht⟩) hS.2.2 dX0_endsAtRow_35
      · refine lv_aload_n hx hb dX0_endsAtRow_27 rfl (lv_at hl 0 rfl) ?_
        refine lv_ldc (v := (-200005)) hx hb hown hk116 dX0_endsAtRow_28 ?_
        refine va_calli (va_runV (As := [.int (-200005)]) (rest := []) ⟨hx, hb, hml, hown, hts⟩ (c_X0_ended l D a hO S (-200005)) (cwV 1 hts gX0_endsAtRow_X0_ended rfl rfl rfl hdX0_ended ⟨Nat.le_of_ble_eq_true rfl, Nat.le_of_ble_eq_true rfl⟩) (xPreV hK hP) rfl rfl hl.1 rfl (lv_room (Nat.le_of_ble_eq_true rfl)) dX0_endsAtRow_30 ⟨Nat.zero_le _, Nat.zero_le _⟩) hS (fun q _ h => h) (fun q h => h) (fun r6 S6 t H1 locs ht hvm hw6 hB hz1 hk1 hS => ?_)
        obtain ⟨hP, -⟩ := hB
        rw [ht] at hP
        have hone7 := xe_ended hw6
        subst hone7
        exact W.zret (v := 1) hx hb hr rfl (fun t ht hW => ⟨⟨1, S6, rfl, (by simp only [xF_endsAtRow, if_neg c1, if_neg c2, if_neg c5, hw6]), by rw [ht]; exact hP, va_K.moved hW.alike hK⟩, hS.F ht⟩) hS.2.2 dX0_endsAtRow_33
  · refine lv_aload_n hx hb dX0_endsAtRow_8 rfl (lv_at hl 0 rfl) ?_
    refine lv_ldc (v := (-100005)) hx hb hown hk115 dX0_endsAtRow_9 ?_
    refine va_calli (va_runV (As := [.int (-100005)]) (rest := []) ⟨hx, hb, hml, hown, hts⟩ (c_X0_ended l D a hO S (-100005)) (cwV 1 hts gX0_endsAtRow_X0_ended rfl rfl rfl hdX0_ended ⟨Nat.le_of_ble_eq_true rfl, Nat.le_of_ble_eq_true rfl⟩) (xPreV hK hP) rfl rfl hl.1 rfl (lv_room (Nat.le_of_ble_eq_true rfl)) dX0_endsAtRow_11 ⟨Nat.zero_le _, Nat.zero_le _⟩) hS (fun q _ h => h) (fun q h => h) (fun r8 S8 t H1 locs ht hvm hw8 hB hz1 hk1 hS => ?_)
    obtain ⟨hP, -⟩ := hB
    rw [ht] at hP
    have hone9 := xe_ended hw8
    subst hone9
    exact W.zret (v := 1) hx hb hr rfl (fun t ht hW => ⟨⟨1, S8, rfl, (by simp only [xF_endsAtRow, if_pos c1, hw8]), by rw [ht]; exact hP, va_K.moved hW.alike hK⟩, hS.F ht⟩) hS.2.2 dX0_endsAtRow_14
theorem xe_endsAtRow {S S1 : XS} {i r : Int32} (hI : xI S) (h : xF_endsAtRow S i = (r, S1)) (c : r = 0) : vp_in i 24 ∧ S = S1 := by
  simp only [xF_endsAtRow] at h
  by_cases h1 : xRc S = -1
  · rw [if_pos h1] at h; exact absurd ((Prod.mk.inj h).1.trans c) (by simp [xF_ended])
  · rw [if_neg h1] at h
    by_cases h2 : i < 0
    · rw [if_pos h2] at h; exact absurd ((Prod.mk.inj h).1.trans c) (by simp [xF_ended])
    · rw [if_neg h2] at h
      by_cases h3 : i < xRc S
      · rw [if_pos h3] at h; exact ⟨in_of hI.2.2.1.2 h2 h3, (Prod.mk.inj h).2⟩
      · rw [if_neg h3] at h; exact absurd ((Prod.mk.inj h).1.trans c) (by simp [xF_ended])
def xF_endsAtPlace (S : XS) (p1 p2 : Int32) : Int32 × XS := (let q1 := xF_endsAtRow S p1; (if q1.1 = 0 then (if p2 < 0 then (let q6 := xF_ended q1.2 (-200006); (q6.1, q6.2)) else (if p2 < (xCc q1.2) then (0, q1.2) else (let q9 := xF_ended q1.2 (-200006); (q9.1, q9.2)))) else (1, q1.2)))
theorem hdX0_endsAtPlace : yX0_endsAtPlace.cls = RX0 ∧ yX0_endsAtPlace.cls ≠ "java/lang/invoke/MethodHandle" ∧ yX0_endsAtPlace.cls ≠ "java/lang/invoke/VarHandle" ∧ (parseMethodDescriptor yX0_endsAtPlace.desc).map (fun d => d.parameters.length) = some 2 := by decide +kernel
set_option maxHeartbeats 4000000 in
set_option maxRecDepth 100000 in
theorem c_X0_endsAtPlace (l : Launch) (D : va_G) (a : XA) (hO : xOk a) (S : XS) (p1 p2 : Int32) (hI : xI S) : Met l yX0_endsAtPlace wsX0_endsAtPlace ({ frames := 2, cells := 0, slots := 0, locals := 42 }) (va_Pc [.ref (xa a), .int p1, .int p2] (xB D a S)) (xQi D a (xF_endsAtPlace S p1 p2)) 0 0 (xA a) := by
  refine Met.ofW (cc := cX0_endsAtPlace) (maxL := 3) (ret := (some .boolean)) (by decide) rfl ?_
  intro p e s m args below meth c s₁ B hml hv
  obtain ⟨rfl, hP, hK⟩ := hv
  have hx := B.exec
  have hb := B.bytes
  have hr := B.returns
  have hts := atoms_spec (ws := wsX0_endsAtPlace) B.pre
  have hown : s.vm.findClass RX0 = some m.cls := findClass_of_methodNamed B.named
  have hlocks := B.notSynchronized
  have hS : va_S (xA a) s.heap s.heap [] := va_S.rf
  have hP : va_P D vwCl (xW a S) s.heap := hP
  have hu : ∀ w ∈ wsX00, w ∈ wsX0_endsAtPlace := fun _ h => List.mem_cons_of_mem _ (List.mem_append_right _ h)
  have hk117 := hts (.constant RX0 117 (-200006)) (by decide +kernel)
  have hf25 := hts (.fieldLink RX0 25 "FlightBooks" "columnCount" "I") (by decide +kernel)
  have hl := lv_entry ([.ref (xa a), .int p1, .int p2]) (n := 3) (Nat.le_of_ble_eq_true rfl)
  rw [lg_entry_eq]
  generalize (lg_sl ([.ref (xa a), .int p1, .int p2]) ++ List.replicate (3 - (lg_sl ([.ref (xa a), .int p1, .int p2])).length) Slot.unset).toArray = ls at hl ⊢
  have hl : lv_has ls 3 [(0, .ref (xa a)), (1, .int p1), (2, .int p2)] := hl
  refine lv_aload_n hx hb dX0_endsAtPlace_0 rfl (lv_at hl 0 rfl) ?_
  refine lv_iload_n hx hb dX0_endsAtPlace_1 rfl (lv_at hl 1 rfl) ?_
  refine va_calli (va_runV (As := [.int p1]) (rest := []) ⟨hx, hb, hml, hown, hts⟩ (c_X0_endsAtRow l D a hO S p1) (cwV 1 hts gX0_endsAtPlace_X0_endsAtRow rfl rfl rfl hdX0_endsAtRow ⟨Nat.le_of_ble_eq_true rfl, Nat.le_of_ble_eq_true rfl⟩) (xPreV hK hP) rfl rfl hl.1 rfl (lv_room (Nat.le_of_ble_eq_true rfl)) dX0_endsAtPlace_2 ⟨Nat.zero_le _, Nat.zero_le _⟩) hS (fun q _ h => h) (fun q h => h) (fun r1 S1 t H1 locs ht hvm hw1 hB hz1 hk1 hS => ?_)
  obtain ⟨hP, -⟩ := hB
  rw [ht] at hP
  refine lv_if_eq (tgt := 10) hx hb dX0_endsAtPlace_5 (by decide) (fun c3 => ?_) (fun c3 => ?_)
  · obtain ⟨hn4, hs4⟩ := xe_endsAtRow hI hw1 c3
    subst hs4
    refine lv_iload_n hx hb dX0_endsAtPlace_10 rfl (lv_at hl 2 rfl) ?_
    refine lv_if_lt (tgt := 22) hx hb dX0_endsAtPlace_11 (by decide) (fun c5 => ?_) (fun c5 => ?_)
    · refine lv_aload_n hx hb dX0_endsAtPlace_22 rfl (lv_at hl 0 rfl) ?_
      refine lv_ldc (v := (-200006)) hx hb hown hk117 dX0_endsAtPlace_23 ?_
      refine va_calli (va_runV (As := [.int (-200006)]) (rest := []) ⟨hx, hb, hml, hown, hts⟩ (c_X0_ended l D a hO S (-200006)) (cwV 1 hts gX0_endsAtPlace_X0_ended rfl rfl rfl hdX0_ended ⟨Nat.le_of_ble_eq_true rfl, Nat.le_of_ble_eq_true rfl⟩) (xPreV hK hP) rfl rfl hl.1 rfl (lv_room (Nat.le_of_ble_eq_true rfl)) dX0_endsAtPlace_25 ⟨Nat.zero_le _, Nat.zero_le _⟩) hS (fun q _ h => h) (fun q h => h) (fun r6 S6 t H1 locs ht hvm hw6 hB hz1 hk1 hS => ?_)
      obtain ⟨hP, -⟩ := hB
      rw [ht] at hP
      have hone7 := xe_ended hw6
      subst hone7
      exact W.zret (v := 1) hx hb hr rfl (fun t ht hW => ⟨⟨1, S6, rfl, (by simp only [xF_endsAtPlace, hw1, if_pos c3, if_pos c5, hw6]), by rw [ht]; exact hP, va_K.moved hW.alike hK⟩, hS.F ht⟩) hS.2.2 dX0_endsAtPlace_28
    · refine lv_iload_n hx hb dX0_endsAtPlace_14 rfl (lv_at hl 2 rfl) ?_
      refine lv_aload_n hx hb dX0_endsAtPlace_15 rfl (lv_at hl 0 rfl) ?_
      refine x_get hx hb hts hu hown hK hP 5 (by decide) hf25 rfl (v := .int (xCc S)) rfl dX0_endsAtPlace_16 ?_
      refine lv_icmp_lt (tgt := 29) hx hb dX0_endsAtPlace_19 (by decide) (fun c8 => ?_) (fun c8 => ?_)
      · refine lv_iconst (v := 0) hx hb dX0_endsAtPlace_29 (by decide) ?_
        exact W.zret (v := 0) hx hb hr rfl (fun t ht hW => ⟨⟨0, S, rfl, (by simp only [xF_endsAtPlace, hw1, if_pos c3, if_neg c5, if_pos c8]), by rw [ht]; exact hP, va_K.moved hW.alike hK⟩, hS.F ht⟩) hS.2.2 dX0_endsAtPlace_30
      · refine lv_aload_n hx hb dX0_endsAtPlace_22 rfl (lv_at hl 0 rfl) ?_
        refine lv_ldc (v := (-200006)) hx hb hown hk117 dX0_endsAtPlace_23 ?_
        refine va_calli (va_runV (As := [.int (-200006)]) (rest := []) ⟨hx, hb, hml, hown, hts⟩ (c_X0_ended l D a hO S (-200006)) (cwV 1 hts gX0_endsAtPlace_X0_ended rfl rfl rfl hdX0_ended ⟨Nat.le_of_ble_eq_true rfl, Nat.le_of_ble_eq_true rfl⟩) (xPreV hK hP) rfl rfl hl.1 rfl (lv_room (Nat.le_of_ble_eq_true rfl)) dX0_endsAtPlace_25 ⟨Nat.zero_le _, Nat.zero_le _⟩) hS (fun q _ h => h) (fun q h => h) (fun r9 S9 t H1 locs ht hvm hw9 hB hz1 hk1 hS => ?_)
        obtain ⟨hP, -⟩ := hB
        rw [ht] at hP
        have hone10 := xe_ended hw9
        subst hone10
        exact W.zret (v := 1) hx hb hr rfl (fun t ht hW => ⟨⟨1, S9, rfl, (by simp only [xF_endsAtPlace, hw1, if_pos c3, if_neg c5, if_neg c8, hw9]), by rw [ht]; exact hP, va_K.moved hW.alike hK⟩, hS.F ht⟩) hS.2.2 dX0_endsAtPlace_28
  · refine lv_iconst (v := 1) hx hb dX0_endsAtPlace_8 (by decide) ?_
    exact W.zret (v := 1) hx hb hr rfl (fun t ht hW => ⟨⟨1, S1, rfl, (by simp only [xF_endsAtPlace, hw1, if_neg c3]), by rw [ht]; exact hP, va_K.moved hW.alike hK⟩, hS.F ht⟩) hS.2.2 dX0_endsAtPlace_9
theorem xe_endsAtPlace {S S1 : XS} {i j r : Int32} (hI : xI S) (h : xF_endsAtPlace S i j = (r, S1)) (c : r = 0) : vp_in i 24 ∧ vp_in j 24 ∧ S = S1 := by
  cases hq : xF_endsAtRow S i with
  | mk r2 S2 =>
    simp only [xF_endsAtPlace, hq] at h
    by_cases h1 : r2 = 0
    · obtain ⟨hi, e⟩ := xe_endsAtRow hI hq h1
      subst e
      rw [if_pos h1] at h
      by_cases h2 : j < 0
      · rw [if_pos h2] at h; exact absurd ((Prod.mk.inj h).1.trans c) (by simp [xF_ended])
      · rw [if_neg h2] at h
        by_cases h3 : j < xCc S
        · rw [if_pos h3] at h; exact ⟨hi, in_of hI.2.2.2.2 h2 h3, (Prod.mk.inj h).2⟩
        · rw [if_neg h3] at h; exact absurd ((Prod.mk.inj h).1.trans c) (by simp [xF_ended])
    · rw [if_neg h1] at h; exact absurd ((Prod.mk.inj h).1.trans c) (by decide)
def xF_put (S : XS) (p1 p2 p3 : Int32) : XS := (xsh S p1 p2 (xF_cut p1 p3))
theorem hdX0_put : yX0_put.cls = RX0 ∧ yX0_put.cls ≠ "java/lang/invoke/MethodHandle" ∧ yX0_put.cls ≠ "java/lang/invoke/VarHandle" ∧ (parseMethodDescriptor yX0_put.desc).map (fun d => d.parameters.length) = some 3 := by decide +kernel
set_option maxHeartbeats 4000000 in
set_option maxRecDepth 100000 in
theorem c_X0_put (l : Launch) (D : va_G) (a : XA) (hO : xOk a) (S : XS) (p1 p2 p3 : Int32) (h5_0 : vp_in p1 5) (h24_1 : vp_in p2 24) : Met l yX0_put wsX0_put ({ frames := 3, cells := 0, slots := 0, locals := 63 }) (va_Pc [.ref (xa a), .int p1, .int p2, .int p3] (xB D a S)) (xQv D a (xF_put S p1 p2 p3)) 0 0 (xA a) := by
  refine Met.ofW (cc := cX0_put) (maxL := 4) (ret := none) (by decide) rfl ?_
  intro p e s m args below meth c s₁ B hml hv
  obtain ⟨rfl, hP, hK⟩ := hv
  have hx := B.exec
  have hb := B.bytes
  have hr := B.returns
  have hts := atoms_spec (ws := wsX0_put) B.pre
  have hown : s.vm.findClass RX0 = some m.cls := findClass_of_methodNamed B.named
  have hlocks := B.notSynchronized
  have hS : va_S (xA a) s.heap s.heap [] := va_S.rf
  have hP : va_P D vwCl (xW a S) s.heap := hP
  have hu : ∀ w ∈ wsX00, w ∈ wsX0_put := fun _ h => List.mem_cons_of_mem _ (List.mem_append_right _ h)
  have hf15 := hts (.fieldLink RX0 15 "FlightBooks" "held" "[[I") (by decide +kernel)
  have hl := lv_entry ([.ref (xa a), .int p1, .int p2, .int p3]) (n := 4) (Nat.le_of_ble_eq_true rfl)
  rw [lg_entry_eq]
  generalize (lg_sl ([.ref (xa a), .int p1, .int p2, .int p3]) ++ List.replicate (4 - (lg_sl ([.ref (xa a), .int p1, .int p2, .int p3])).length) Slot.unset).toArray = ls at hl ⊢
  have hl : lv_has ls 4 [(0, .ref (xa a)), (1, .int p1), (2, .int p2), (3, .int p3)] := hl
  refine lv_aload_n hx hb dX0_put_0 rfl (lv_at hl 0 rfl) ?_
  refine x_get hx hb hts hu hown hK hP 2 (by decide) hf15 rfl (v := .ref (xah a)) rfl dX0_put_1 ?_
  refine lv_iload_n hx hb dX0_put_4 rfl (lv_at hl 1 rfl) ?_
  refine x_aldh hx hb hK hP h5_0 dX0_put_5 ?_
  refine lv_iload_n hx hb dX0_put_6 rfl (lv_at hl 2 rfl) ?_
  refine lv_iload_n hx hb dX0_put_7 rfl (lv_at hl 1 rfl) ?_
  refine lv_iload_n hx hb dX0_put_8 rfl (lv_at hl 3 rfl) ?_
  refine va_calli (va_runS (As := [.int p1, .int p3]) (rest := [.int p2, .ref (xrh a (Int32.toNatClampNeg p1))]) ⟨hx, hb, hml, hown, hts⟩ (c_X0_cut l p1 p3) (va_cwS 2 hts gX0_put_X0_cut rfl rfl rfl hdX0_cut ⟨Nat.le_of_ble_eq_true rfl, Nat.le_of_ble_eq_true rfl⟩) pPreS rfl rfl hl.1 rfl (lv_room (Nat.le_of_ble_eq_true rfl)) dX0_put_9 ⟨Nat.zero_le _, Nat.zero_le _⟩) hS (fun q _ h => h.elim) (fun q h => h.elim) (fun r1 u1 t H1 locs ht hvm hw1 hB hz1 hk1 hS => ?_)
  have hP := P_kept hP hk1
  refine x_sth hx hb hO hK hP hS h5_0 h24_1 dX0_put_12 (fun H locs hP hS => ?_)
  exact W.vret hx hb hr (fun t ht hW => ⟨⟨(xsh S p1 p2 r1), rfl, (by simp only [xF_put, hw1]), by rw [ht]; exact hP, va_K.moved hW.alike hK⟩, hS.F ht⟩) hS.2.2 dX0_put_13
theorem xI_put {S S1 : XS} {b i v : Int32} (hI : xI S) (h : xF_put S b i v = S1) : xI S1 := by
  subst h
  exact hI
def xF_endsAtArrival (S : XS) (p1 p2 p3 : Int32) : Int32 × XS := (let q1 := xF_endsAtLine S 2 p1; (if q1.1 = 0 then (let q5 := xF_put q1.2 2 p1 p3; (let q7 := xF_endsAtLine q5 0 p1; (if q7.1 = 0 then (let q11 := xF_put q7.2 0 p1 p2; (let q13 := xF_endsAtLine q11 4 p1; (if q13.1 = 0 then (let q17 := xF_put q13.2 4 p1 ((xh q13.2 4 p1) + 1); (0, q17)) else (1, q13.2)))) else (1, q7.2)))) else (1, q1.2)))
theorem hdX0_endsAtArrival : yX0_endsAtArrival.cls = RX0 ∧ yX0_endsAtArrival.cls ≠ "java/lang/invoke/MethodHandle" ∧ yX0_endsAtArrival.cls ≠ "java/lang/invoke/VarHandle" ∧ (parseMethodDescriptor yX0_endsAtArrival.desc).map (fun d => d.parameters.length) = some 3 := by decide +kernel
set_option maxHeartbeats 4000000 in
set_option maxRecDepth 100000 in
theorem c_X0_endsAtArrival (l : Launch) (D : va_G) (a : XA) (hO : xOk a) (S : XS) (p1 p2 p3 : Int32) (hI : xI S) : Met l yX0_endsAtArrival wsX0_endsAtArrival ({ frames := 4, cells := 0, slots := 0, locals := 86 }) (va_Pc [.ref (xa a), .int p1, .int p2, .int p3] (xB D a S)) (xQi D a (xF_endsAtArrival S p1 p2 p3)) 0 0 (xA a) := by
  refine Met.ofW (cc := cX0_endsAtArrival) (maxL := 4) (ret := (some .boolean)) (by decide) rfl ?_
  intro p e s m args below meth c s₁ B hml hv
  obtain ⟨rfl, hP, hK⟩ := hv
  have hx := B.exec
  have hb := B.bytes
  have hr := B.returns
  have hts := atoms_spec (ws := wsX0_endsAtArrival) B.pre
  have hown : s.vm.findClass RX0 = some m.cls := findClass_of_methodNamed B.named
  have hlocks := B.notSynchronized
  have hS : va_S (xA a) s.heap s.heap [] := va_S.rf
  have hP : va_P D vwCl (xW a S) s.heap := hP
  have hu : ∀ w ∈ wsX00, w ∈ wsX0_endsAtArrival := fun _ h => List.mem_cons_of_mem _ (List.mem_append_right _ h)
  have hf15 := hts (.fieldLink RX0 15 "FlightBooks" "held" "[[I") (by decide +kernel)
  have hl := lv_entry ([.ref (xa a), .int p1, .int p2, .int p3]) (n := 4) (Nat.le_of_ble_eq_true rfl)
  rw [lg_entry_eq]
  generalize (lg_sl ([.ref (xa a), .int p1, .int p2, .int p3]) ++ List.replicate (4 - (lg_sl ([.ref (xa a), .int p1, .int p2, .int p3])).length) Slot.unset).toArray = ls at hl ⊢
  have hl : lv_has ls 4 [(0, .ref (xa a)), (1, .int p1), (2, .int p2), (3, .int p3)] := hl
  refine lv_aload_n hx hb dX0_endsAtArrival_0 rfl (lv_at hl 0 rfl) ?_
  refine lv_iconst (v := 2) hx hb dX0_endsAtArrival_1 (by decide) ?_
  refine lv_iload_n hx hb dX0_endsAtArrival_2 rfl (lv_at hl 1 rfl) ?_
  refine va_calli (va_runV (As := [.int 2, .int p1]) (rest := []) ⟨hx, hb, hml, hown, hts⟩ (c_X0_endsAtLine l D a hO S 2 p1 hI vp_k2_5) (cwV 2 hts gX0_endsAtArrival_X0_endsAtLine rfl rfl rfl hdX0_endsAtLine ⟨Nat.le_of_ble_eq_true rfl, Nat.le_of_ble_eq_true rfl⟩) (xPreV hK hP) rfl rfl hl.1 rfl (lv_room (Nat.le_of_ble_eq_true rfl)) dX0_endsAtArrival_3 ⟨Nat.zero_le _, Nat.zero_le _⟩) hS (fun q _ h => h) (fun q h => h) (fun r1 S1 t H1 locs ht hvm hw1 hB hz1 hk1 hS => ?_)
  obtain ⟨hP, -⟩ := hB
  rw [ht] at hP
  refine lv_if_eq (tgt := 11) hx hb dX0_endsAtArrival_6 (by decide) (fun c3 => ?_) (fun c3 => ?_)
  · obtain ⟨hn4, hs4⟩ := xe_endsAtLine hI vp_k2_5 hw1 c3
    subst hs4
    refine lv_aload_n hx hb dX0_endsAtArrival_11 rfl (lv_at hl 0 rfl) ?_
    refine lv_iconst (v := 2) hx hb dX0_endsAtArrival_12 (by decide) ?_
    refine lv_iload_n hx hb dX0_endsAtArrival_13 rfl (lv_at hl 1 rfl) ?_
    refine lv_iload_n hx hb dX0_endsAtArrival_14 rfl (lv_at hl 3 rfl) ?_
    refine va_callv (va_runV (As := [.int 2, .int p1, .int p3]) (rest := []) ⟨hx, hb, hml, hown, hts⟩ (c_X0_put l D a hO S 2 p1 p3 vp_k2_5 hn4) (cwV 3 hts gX0_endsAtArrival_X0_put rfl rfl rfl hdX0_put ⟨Nat.le_of_ble_eq_true rfl, Nat.le_of_ble_eq_true rfl⟩) (xPreV hK hP) rfl rfl hl.1 rfl (lv_room (Nat.le_of_ble_eq_true rfl)) dX0_endsAtArrival_15 ⟨Nat.zero_le _, Nat.zero_le _⟩) hS (fun q _ h => h) (fun q h => h) (fun S5 t H1 locs ht hvm hw5 hB hz1 hk1 hS => ?_)
    obtain ⟨hP, -⟩ := hB
    rw [ht] at hP
    have hI := xI_put hI hw5
    refine lv_aload_n hx hb dX0_endsAtArrival_18 rfl (lv_at hl 0 rfl) ?_
    refine lv_iconst (v := 0) hx hb dX0_endsAtArrival_19 (by decide) ?_
    refine lv_iload_n hx hb dX0_endsAtArrival_20 rfl (lv_at hl 1 rfl) ?_
    refine va_calli (va_runV (As := [.int 0, .int p1]) (rest := []) ⟨hx, hb, hml, hown, hts⟩ (c_X0_endsAtLine l D a hO S5 0 p1 hI vp_k0_5) (cwV 2 hts gX0_endsAtArrival_X0_endsAtLine rfl rfl rfl hdX0_endsAtLine ⟨Nat.le_of_ble_eq_true rfl, Nat.le_of_ble_eq_true rfl⟩) (xPreV hK hP) rfl rfl hl.1 rfl (lv_room (Nat.le_of_ble_eq_true rfl)) dX0_endsAtArrival_21 ⟨Nat.zero_le _, Nat.zero_le _⟩) hS (fun q _ h => h) (fun q h => h) (fun r7 S7 t H1 locs ht hvm hw7 hB hz1 hk1 hS => ?_)
    obtain ⟨hP, -⟩ := hB
    rw [ht] at hP
    refine lv_if_eq (tgt := 29) hx hb dX0_endsAtArrival_24 (by decide) (fun c9 => ?_) (fun c9 => ?_)
    · obtain ⟨hn10, hs10⟩ := xe_endsAtLine hI vp_k0_5 hw7 c9
      subst hs10
      refine lv_aload_n hx hb dX0_endsAtArrival_29 rfl (lv_at hl 0 rfl) ?_
      refine lv_iconst (v := 0) hx hb dX0_endsAtArrival_30 (by decide) ?_
      refine lv_iload_n hx hb dX0_endsAtArrival_31 rfl (lv_at hl 1 rfl) ?_
      refine lv_iload_n hx hb dX0_endsAtArrival_32 rfl (lv_at hl 2 rfl) ?_
      refine va_callv (va_runV (As := [.int 0, .int p1, .int p2]) (rest := []) ⟨hx, hb, hml, hown, hts⟩ (c_X0_put l D a hO S5 0 p1 p2 vp_k0_5 hn10) (cwV 3 hts gX0_endsAtArrival_X0_put rfl rfl rfl hdX0_put ⟨Nat.le_of_ble_eq_true rfl, Nat.le_of_ble_eq_true rfl⟩) (xPreV hK hP) rfl rfl hl.1 rfl (lv_room (Nat.le_of_ble_eq_true rfl)) dX0_endsAtArrival_33 ⟨Nat.zero_le _, Nat.zero_le _⟩) hS (fun q _ h => h) (fun q h => h) (fun S11 t H1 locs ht hvm hw11 hB hz1 hk1 hS => ?_)
      obtain ⟨hP, -⟩ := hB
      rw [ht] at hP
      have hI := xI_put hI hw11
      refine lv_aload_n hx hb dX0_endsAtArrival_36 rfl (lv_at hl 0 rfl) ?_
      refine lv_iconst (v := 4) hx hb dX0_endsAtArrival_37 (by decide) ?_
      refine lv_iload_n hx hb dX0_endsAtArrival_38 rfl (lv_at hl 1 rfl) ?_
      refine va_calli (va_runV (As := [.int 4, .int p1]) (rest := []) ⟨hx, hb, hml, hown, hts⟩ (c_X0_endsAtLine l D a hO S11 4 p1 hI vp_k4_5) (cwV 2 hts gX0_endsAtArrival_X0_endsAtLine rfl rfl rfl hdX0_endsAtLine ⟨Nat.le_of_ble_eq_true rfl, Nat.le_of_ble_eq_true rfl⟩) (xPreV hK hP) rfl rfl hl.1 rfl (lv_room (Nat.le_of_ble_eq_true rfl)) dX0_endsAtArrival_39 ⟨Nat.zero_le _, Nat.zero_le _⟩) hS (fun q _ h => h) (fun q h => h) (fun r13 S13 t H1 locs ht hvm hw13 hB hz1 hk1 hS => ?_)
      obtain ⟨hP, -⟩ := hB
      rw [ht] at hP
      refine lv_if_eq (tgt := 47) hx hb dX0_endsAtArrival_42 (by decide) (fun c15 => ?_) (fun c15 => ?_)
      · obtain ⟨hn16, hs16⟩ := xe_endsAtLine hI vp_k4_5 hw13 c15
        subst hs16
        refine lv_aload_n hx hb dX0_endsAtArrival_47 rfl (lv_at hl 0 rfl) ?_
        refine lv_iconst (v := 4) hx hb dX0_endsAtArrival_48 (by decide) ?_
        refine lv_iload_n hx hb dX0_endsAtArrival_49 rfl (lv_at hl 1 rfl) ?_
        refine lv_aload_n hx hb dX0_endsAtArrival_50 rfl (lv_at hl 0 rfl) ?_
        refine x_get hx hb hts hu hown hK hP 2 (by decide) hf15 rfl (v := .ref (xah a)) rfl dX0_endsAtArrival_51 ?_
        refine lv_iconst (v := 4) hx hb dX0_endsAtArrival_54 (by decide) ?_
        refine x_aldh hx hb hK hP vp_k4_5 dX0_endsAtArrival_55 ?_
        refine lv_iload_n hx hb dX0_endsAtArrival_56 rfl (lv_at hl 1 rfl) ?_
        refine x_ldh hx hb hK hP vp_k4_5 hn16 dX0_endsAtArrival_57 ?_
        refine lv_iconst (v := 1) hx hb dX0_endsAtArrival_58 (by decide) ?_
        refine lv_iadd hx hb dX0_endsAtArrival_59 ?_
        refine va_callv (va_runV (As := [.int 4, .int p1, .int ((xh S11 4 p1) + 1)]) (rest := []) ⟨hx, hb, hml, hown, hts⟩ (c_X0_put l D a hO S11 4 p1 ((xh S11 4 p1) + 1) vp_k4_5 hn16) (cwV 3 hts gX0_endsAtArrival_X0_put rfl rfl rfl hdX0_put ⟨Nat.le_of_ble_eq_true rfl, Nat.le_of_ble_eq_true rfl⟩) (xPreV hK hP) rfl rfl hl.1 rfl (lv_room (Nat.le_of_ble_eq_true rfl)) dX0_endsAtArrival_60 ⟨Nat.zero_le _, Nat.zero_le _⟩) hS (fun q _ h => h) (fun q h => h) (fun S17 t H1 locs ht hvm hw17 hB hz1 hk1 hS => ?_)
        obtain ⟨hP, -⟩ := hB
        rw [ht] at hP
        have hI := xI_put hI hw17
        refine lv_iconst (v := 0) hx hb dX0_endsAtArrival_63 (by decide) ?_
        exact W.zret (v := 0) hx hb hr rfl (fun t ht hW => ⟨⟨0, S17, rfl, (by simp only [xF_endsAtArrival, hw1, if_pos c3, hw5, hw7, if_pos c9, hw11, hw13, if_pos c15, hw17]), by rw [ht]; exact hP, va_K.moved hW.alike hK⟩, hS.F ht⟩) hS.2.2 dX0_endsAtArrival_64
      · refine lv_iconst (v := 1) hx hb dX0_endsAtArrival_45 (by decide) ?_
        exact W.zret (v := 1) hx hb hr rfl (fun t ht hW => ⟨⟨1, S13, rfl, (by simp only [xF_endsAtArrival, hw1, if_pos c3, hw5, hw7, if_pos c9, hw11, hw13, if_neg c15]), by rw [ht]; exact hP, va_K.moved hW.alike hK⟩, hS.F ht⟩) hS.2.2 dX0_endsAtArrival_46
    · refine lv_iconst (v := 1) hx hb dX0_endsAtArrival_27 (by decide) ?_
      exact W.zret (v := 1) hx hb hr rfl (fun t ht hW => ⟨⟨1, S7, rfl, (by simp only [xF_endsAtArrival, hw1, if_pos c3, hw5, hw7, if_neg c9]), by rw [ht]; exact hP, va_K.moved hW.alike hK⟩, hS.F ht⟩) hS.2.2 dX0_endsAtArrival_28
  · refine lv_iconst (v := 1) hx hb dX0_endsAtArrival_9 (by decide) ?_
    exact W.zret (v := 1) hx hb hr rfl (fun t ht hW => ⟨⟨1, S1, rfl, (by simp only [xF_endsAtArrival, hw1, if_neg c3]), by rw [ht]; exact hP, va_K.moved hW.alike hK⟩, hS.F ht⟩) hS.2.2 dX0_endsAtArrival_10
theorem xI_eal {S : XS} (b i : Int32) (hI : xI S) : xI (xF_endsAtLine S b i).2 := by
  have hk : xI (xF_endsAtBook S b).2 := by
    unfold xF_endsAtBook xF_ended
    by_cases h1 : xc S b = -1
    · rw [if_pos h1]; exact hI
    · rw [if_neg h1]; exact hI
  simp only [xF_endsAtLine, xF_ended]
  by_cases h1 : (xF_endsAtBook S b).1 = 0
  · rw [if_pos h1]
    by_cases h2 : i < 0
    · rw [if_pos h2]; exact hk
    · rw [if_neg h2]
      by_cases h3 : i < xc (xF_endsAtBook S b).2 b
      · rw [if_pos h3]; exact hk
      · rw [if_neg h3]; exact hk
  · rw [if_neg h1]; exact hk
theorem xI_pt {S : XS} (b i v : Int32) (hI : xI S) : xI (xF_put S b i v) := hI
theorem xI_endsAtArrival {S S1 : XS} {b i v r : Int32} (hI : xI S) (h : xF_endsAtArrival S b i v = (r, S1)) : xI S1 := by
  have e : S1 = (xF_endsAtArrival S b i v).2 := by rw [h]
  subst e
  simp only [xF_endsAtArrival]
  have h1 := xI_eal 2 b hI
  generalize xF_endsAtLine S 2 b = q1 at h1 ⊢
  by_cases c1 : q1.1 = 0
  · rw [if_pos c1]
    have h2 := xI_pt 2 b v h1
    generalize xF_put q1.2 2 b v = q2 at h2 ⊢
    have h3 := xI_eal 0 b h2
    generalize xF_endsAtLine q2 0 b = q3 at h3 ⊢
    by_cases c3 : q3.1 = 0
    · rw [if_pos c3]
      have h4 := xI_pt 0 b i h3
      generalize xF_put q3.2 0 b i = q4 at h4 ⊢
      have h5 := xI_eal 4 b h4
      generalize xF_endsAtLine q4 4 b = q5 at h5 ⊢
      by_cases c5 : q5.1 = 0
      · rw [if_pos c5]; exact xI_pt _ _ _ h5
      · rw [if_neg c5]; exact h5
    · rw [if_neg c3]; exact h3
  · rw [if_neg c1]; exact h1
end
section
/-! Arrays.fill over int[], and the class' calls of it -/
theorem cell_ext {c : ClassId} {n : Nat} {g g' : Nat → Int32} (h : ∀ j, j < n → g j = g' j) : vp_cell c (n, .inl g) = vp_cell c (n, .inl g') := by
  show arrV c n (fun j => .int (g j)) = arrV c n (fun j => .int (g' j))
  have e : (Array.ofFn (n := n) fun j => Value.int (g j.val)) = Array.ofFn (n := n) fun j => Value.int (g' j.val) := by
    congr 1
    funext j
    rw [h j.val j.isLt]
  unfold arrV
  rw [e]
theorem P_setk {D : va_G} {cl : List vw_C} {A : Nat → Prop} {ws : va_W} {H H1 : Heap} {k q : Nat} {e0 e : va_E} (hP : va_P D cl ws H) (hD : va_D A ws) (hk : ws[k]? = some (q, e0)) (ho : ∀ x : Nat, x < H.size → ¬ x = q → H1[x]? = H[x]?) (hn : va_at D cl (q, e) H1) : va_P D cl (ws.set k (q, e)) H1 := by
  have hl := (List.getElem?_eq_some_iff.mp hk).1
  intro j x hj
  by_cases hjk : j = k
  · subst hjk
    rw [List.getElem?_set_self hl] at hj
    cases hj
    exact hn
  · rw [List.getElem?_set_ne (Ne.symm hjk)] at hj
    exact (hP j x hj).kept (ho x.1 ((hP j x hj).lt) (fun z => hjk (hD.1 j k x (q, e0) hj hk z)))
theorem hdJ7_fill : yJ7_fill_53178.cls ≠ "java/lang/invoke/MethodHandle" ∧ yJ7_fill_53178.cls ≠ "java/lang/invoke/VarHandle" ∧ (parseMethodDescriptor yJ7_fill_53178.desc).map (fun d => d.parameters.length) = some 2 := by decide +kernel
abbrev fB (D : va_G) (q : Nat) (cI : ClassId) (n : Nat) (f : Nat → Int32) (t : State) : Prop := va_P D vwCl [(q, .inl (cI, n, .inl f))] t.heap ∧ va_K D vwCl [(cI, .int)] t
set_option maxHeartbeats 4000000 in
set_option maxRecDepth 100000 in
theorem c_fill (l : Launch) (D : va_G) (q : Nat) (cI : ClassId) (n : Nat) (hn : n < 2 ^ 31) (f : Nat → Int32) (v : Int32) : Met l yJ7_fill_53178 wsJ7_fill_53178 ({ frames := 0, cells := 0, slots := 0, locals := 0 }) (va_Pc [.ref q, .int v] (fB D q cI n f)) (va_Qv (fun (_ : Unit) => True) (fun _ t => fB D q cI n (fun _ => v) t) (fun x => x = q)) 0 0 (fun x => x = q) := by
  refine Met.ofW (cc := cJ7_fill_53178) (maxL := 4) (ret := none) (by decide) rfl ?_
  intro p e s m args below meth c s₁ B hml hv
  obtain ⟨rfl, hP, hK⟩ := hv
  have hx := B.exec
  have hb := B.bytes
  have hr := B.returns
  have hlocks := B.notSynchronized
  have hS : va_S (fun x => x = q) s.heap s.heap [] := va_S.rf
  have hP : va_P D vwCl [(q, .inl (cI, n, .inl f))] s.heap := hP
  have hD : ∀ g : Nat → Int32, va_D (fun x => x = q) [(q, .inl (cI, n, .inl g))] := fun g => by
    refine ⟨fun i j x y hi hj _ => ?_, fun k x hk => ?_⟩
    · have h1 : i < 1 := (List.getElem?_eq_some_iff.mp hi).1
      have h2 : j < 1 := (List.getElem?_eq_some_iff.mp hj).1
      omega
    · have h1 : k < 1 := (List.getElem?_eq_some_iff.mp hk).1
      rw [show k = 0 by omega] at hk
      cases hk
      rfl
  have loop : ∀ (z k : Nat) (i : Int32) (g : Nat → Int32) (H : Heap) (locs : List Loc) (ls : Array Slot), k ≤ n → n + 1 ≤ k + z → i = nI k → (∀ j, j < k → g j = v) → va_P D vwCl [(q, .inl (cI, n, .inl g))] H → va_S (fun x => x = q) s.heap H locs → lv_has ls 4 [(2, .int i), (3, .int (nI n)), (0, .ref q), (1, .int v)] → W p l e (headSpec wsJ7_fill_53178 ({ frames := 0, cells := 0, slots := 0, locals := 0 })).room s m [Value.ref q, Value.int v].toArray below meth c H locs 0 0 (MQ below (va_Qv (fun (_ : Unit) => True) (fun _ t => fB D q cI n (fun _ => v) t) (fun x => x = q)) [Value.ref q, Value.int v].toArray s 0 0 (fun x => x = q)) (F0 m 5 ls []) := by
    intro z
    induction z with
    | zero =>
      intro k i g H locs ls h1 h2
      exact absurd h2 (by omega)
    | succ z ih =>
      intro k i g H locs ls hk hkz ei hg hP hS hl
      refine lv_iload_n hx hb dJ7_fill_53178_5 rfl (lv_at hl 0 rfl) ?_
      refine lv_iload_n hx hb dJ7_fill_53178_6 rfl (lv_at hl 1 rfl) ?_
      refine lv_icmp_ge (tgt := 20) hx hb dJ7_fill_53178_7 (by decide) (fun c1 => ?_) (fun c1 => ?_)
      · have hkn : k = n := by
          rw [ei, nI_leI hn (by omega)] at c1
          omega
        have hP9 : va_P D vwCl [(q, .inl (cI, n, .inl (fun _ => v)))] H := by
          intro j x hj
          have h1 : j < 1 := (List.getElem?_eq_some_iff.mp hj).1
          rw [show j = 0 by omega] at hj
          cases hj
          have h0 := hP 0 _ rfl
          show H[q]? = some (vp_cell cI (n, .inl (fun _ => v)))
          rw [← cell_ext (g := g) (fun j hj => hg j (by omega))]
          exact h0
        exact W.vret hx hb hr (fun t ht hW => ⟨⟨(), rfl, trivial, by rw [ht]; exact hP9, va_K.moved hW.alike hK⟩, hS.F ht⟩) hS.2.2 dJ7_fill_53178_20
      · have hkn : k < n := by
          rw [ei, nI_leI hn (by omega)] at c1
          omega
        have hin : vp_in i n := by rw [ei]; exact vp_in_nI hkn hn
        refine lv_aload_n hx hb dJ7_fill_53178_10 rfl (lv_at hl 2 rfl) ?_
        refine lv_iload_n hx hb dJ7_fill_53178_11 rfl (lv_at hl 0 rfl) ?_
        refine lv_iload_n hx hb dJ7_fill_53178_12 rfl (lv_at hl 3 rfl) ?_
        refine va_iast hx hb hK hP (hD g) hS 0 0 rfl rfl hin dJ7_fill_53178_13 (fun H locs hP _ hS => ?_)
        refine lv_iinc (v := i + 1) (lv' := [(2, .int (i + 1)), (3, .int (nI n)), (0, .ref q), (1, .int v)]) hx hb dJ7_fill_53178_14 hl (k := 0) rfl rfl (by decide) rfl (fun ls hl => ?_)
        refine lv_goto (tgt := 5) hx hb dJ7_fill_53178_17 (by decide) ?_
        refine ih (k + 1) (i + 1) (upd g i.toNatClampNeg v) H locs ls hkn (by omega) (by rw [ei]; exact nI_1 k) (fun j hj => ?_) hP hS hl
        rw [ei, nI_clamp (by omega)]
        by_cases h : j = k
        · rw [h]; exact pk_us
        · rw [pk_un h]; exact hg j (by omega)
  have hl := lv_entry ([.ref q, .int v]) (n := 4) (Nat.le_of_ble_eq_true rfl)
  rw [lg_entry_eq]
  generalize (lg_sl ([.ref q, .int v]) ++ List.replicate (4 - (lg_sl ([.ref q, .int v])).length) Slot.unset).toArray = ls at hl ⊢
  have hl : lv_has ls 4 [(0, .ref q), (1, .int v)] := hl
  refine lv_iconst (v := 0) hx hb dJ7_fill_53178_0 (by decide) ?_
  refine lv_istore_n (lv' := [(2, .int 0), (0, .ref q), (1, .int v)]) hx hb dJ7_fill_53178_1 rfl hl (by decide) rfl (fun ls hl => ?_)
  refine lv_aload_n hx hb dJ7_fill_53178_2 rfl (lv_at hl 1 rfl) ?_
  refine va_alen hx hb hK hP 0 0 rfl rfl (v := nI n) rfl dJ7_fill_53178_3 ?_
  refine lv_istore_n (lv' := [(3, .int (nI n)), (2, .int 0), (0, .ref q), (1, .int v)]) hx hb dJ7_fill_53178_4 rfl hl (by decide) rfl (fun ls hl => ?_)
  exact loop (n + 1) 0 0 f _ _ ls (Nat.zero_le _) (by omega) nI_0.symm (fun j hj => absurd hj (by omega)) hP hS (lv_sub hl [1, 0, 2, 3] rfl)
section XFL
variable {p : Program} {l : Launch} {e : Env} {R : Room} {s : State} {m : MethodId} {args : Array Value} {below : List Frame} {meth : Method} {c : Code} {H : Heap} {locs : List Loc} {cells slots : Nat} {Q : State → Prop}
variable {cc : ByteArray} {pc nL : Nat} {ls : Array Slot} {rest : List Value} {D : va_G} {a : XA} {S : XS} {H0 : Heap} {Ts : List Cond}
theorem x_fill {A : Nat → Prop} {ws : va_W} {tys : List (ClassId × FieldType)} (hexec : p.tables.exec = Jvm.exec) (hb : c.code = cc) (hml : c.maxLocals = nL) (hsz : ls.size = nL) (hown : s.vm.findClass RX0 = some m.cls) (hts : ∀ w ∈ Ts, w.before args s = true) (hG : GoodIn Ts (va_wsS RX0 47 yJ7_fill_53178 wsJ7_fill_53178)) (hfr : 1 ≤ R.frames) (hlo : 23 ≤ R.locals) (hK : va_K D vwCl tys s) (hP : va_P D vwCl ws H) (hD : va_D A ws) (hS : va_S A H0 H locs) (k t0 : Nat) {q n : Nat} {cI : ClassId} {f : Nat → Int32} (hq : ws[k]? = some (q, .inl (cI, n, .inl f))) (ht0 : tys[t0]? = some (cI, .int)) (hn : n < 2 ^ 31) {v : Int32} (hrm : (rest.map fun v => v.category).sum ≤ 8) (hc : cells ≤ R.cells) (hs : slots ≤ R.slots) (hdg : decode cc pc = .ok (.invokestatic 47, 3))
    (kk : ∀ (H1 : Heap) (locs1 : List Loc), va_P D vwCl (ws.set k (q, .inl (cI, n, .inl (fun _ => v)))) H1 → va_S A H0 H1 locs1 → W p l e R s m args below meth c H1 locs1 cells slots Q (F0 m (pc + 3) ls rest)) : W p l e R s m args below meth c H locs cells slots Q (F0 m pc ls (.int v :: .ref q :: rest)) := by
  have hq1 : va_P D vwCl [(q, .inl (cI, n, .inl f))] H := fun j x hj => by
    have h1 : j < 1 := (List.getElem?_eq_some_iff.mp hj).1
    rw [show j = 0 by omega] at hj
    cases hj
    exact hP k _ hq
  have hK1 : va_K D vwCl [(cI, .int)] s := ⟨hK.1, fun j x hj => by
    have h1 : j < 1 := (List.getElem?_eq_some_iff.mp hj).1
    rw [show j = 0 by omega] at hj
    cases hj
    exact hK.2 t0 _ ht0⟩
  have hA : A q := hD.2 k _ hq
  refine va_callv (va_runS (As := [.ref q, .int v]) (rest := rest) ⟨hexec, hb, hml, hown, hts⟩ (c_fill l D q cI n hn f v) (va_cwS 2 hts hG rfl rfl rfl hdJ7_fill ⟨hfr, hlo⟩) ⟨fun a U g mk h => ⟨h.1, h.2.1, va_K.moved (u := U) (U := U.calling g mk a) (Vm.Alike.refl U.vm) h.2.2⟩, fun U hU hW => ⟨rfl, by rw [hU]; exact hq1, va_K.moved hW.alike hK1⟩⟩ rfl rfl hsz rfl (lv_room hrm) hdg ⟨hc, hs⟩) hS (fun x _ h => by rw [show x = q from h]; exact hA) (fun x h => by rw [show x = q from h]; exact hA) (fun u t H1 locs ht hvm hw hB hz1 hk1 hS => ?_)
  obtain ⟨hP1, -⟩ := hB
  rw [ht] at hP1
  exact kk H1 locs (P_setk hP hD hq hk1 (hP1 0 _ rfl)) hS
theorem x_fillc (hexec : p.tables.exec = Jvm.exec) (hb : c.code = cc) (hml : c.maxLocals = nL) (hsz : ls.size = nL) (hown : s.vm.findClass RX0 = some m.cls) (hts : ∀ w ∈ Ts, w.before args s = true) (hG : GoodIn Ts (va_wsS RX0 47 yJ7_fill_53178 wsJ7_fill_53178)) (hfr : 1 ≤ R.frames) (hlo : 23 ≤ R.locals) (hrm : (rest.map fun v => v.category).sum ≤ 8) (hc : cells ≤ R.cells) (hs : slots ≤ R.slots) (hO : xOk a) (hK : va_K D vwCl (xT a) s) (hP : va_P D vwCl (xW a S) H) (hS : va_S (xA a) H0 H locs) {v : Int32} (hdg : decode cc pc = .ok (.invokestatic 47, 3))
    (kk : ∀ (H1 : Heap) (locs1 : List Loc), va_P D vwCl (xW a (xsC S (fun _ => v))) H1 → va_S (xA a) H0 H1 locs1 → W p l e R s m args below meth c H1 locs1 cells slots Q (F0 m (pc + 3) ls rest)) : W p l e R s m args below meth c H locs cells slots Q (F0 m pc ls (.int v :: .ref (xac a) :: rest)) :=
  x_fill hexec hb hml hsz hown hts hG hfr hlo hK hP (xD hO S) hS 1 0 rfl rfl (by decide) hrm hc hs hdg kk
theorem x_fillh (hexec : p.tables.exec = Jvm.exec) (hb : c.code = cc) (hml : c.maxLocals = nL) (hsz : ls.size = nL) (hown : s.vm.findClass RX0 = some m.cls) (hts : ∀ w ∈ Ts, w.before args s = true) (hG : GoodIn Ts (va_wsS RX0 47 yJ7_fill_53178 wsJ7_fill_53178)) (hfr : 1 ≤ R.frames) (hlo : 23 ≤ R.locals) (hrm : (rest.map fun v => v.category).sum ≤ 8) (hc : cells ≤ R.cells) (hs : slots ≤ R.slots) (hO : xOk a) (hK : va_K D vwCl (xT a) s) (hP : va_P D vwCl (xW a S) H) (hS : va_S (xA a) H0 H locs) {b v : Int32} (h5 : vp_in b 5) (hdg : decode cc pc = .ok (.invokestatic 47, 3))
    (kk : ∀ (H1 : Heap) (locs1 : List Loc), va_P D vwCl (xW a (xsH S (va_up (xH S) b.toNatClampNeg (fun _ => v)))) H1 → va_S (xA a) H0 H1 locs1 → W p l e R s m args below meth c H1 locs1 cells slots Q (F0 m (pc + 3) ls rest)) : W p l e R s m args below meth c H locs cells slots Q (F0 m pc ls (.int v :: .ref (xrh a b.toNatClampNeg) :: rest)) :=
  x_fill hexec hb hml hsz hown hts hG hfr hlo hK hP (xD hO S) hS (4 + b.toNatClampNeg) 0 (xW_h (vk_lt h5)) rfl (by decide) hrm hc hs hdg (fun H1 locs1 h1 h2 => kk H1 locs1 (by rw [← xW_seth (vk_lt h5)]; exact h1) h2)
theorem x_fillp (hexec : p.tables.exec = Jvm.exec) (hb : c.code = cc) (hml : c.maxLocals = nL) (hsz : ls.size = nL) (hown : s.vm.findClass RX0 = some m.cls) (hts : ∀ w ∈ Ts, w.before args s = true) (hG : GoodIn Ts (va_wsS RX0 47 yJ7_fill_53178 wsJ7_fill_53178)) (hfr : 1 ≤ R.frames) (hlo : 23 ≤ R.locals) (hrm : (rest.map fun v => v.category).sum ≤ 8) (hc : cells ≤ R.cells) (hs : slots ≤ R.slots) (hO : xOk a) (hK : va_K D vwCl (xT a) s) (hP : va_P D vwCl (xW a S) H) (hS : va_S (xA a) H0 H locs) {b v : Int32} (h5 : vp_in b 24) (hdg : decode cc pc = .ok (.invokestatic 47, 3))
    (kk : ∀ (H1 : Heap) (locs1 : List Loc), va_P D vwCl (xW a (xsP S (va_up (xP S) b.toNatClampNeg (fun _ => v)))) H1 → va_S (xA a) H0 H1 locs1 → W p l e R s m args below meth c H1 locs1 cells slots Q (F0 m (pc + 3) ls rest)) : W p l e R s m args below meth c H locs cells slots Q (F0 m pc ls (.int v :: .ref (xrp a b.toNatClampNeg) :: rest)) :=
  x_fill hexec hb hml hsz hown hts hG hfr hlo hK hP (xD hO S) hS (9 + b.toNatClampNeg) 0 (xW_p (vk_lt h5)) rfl (by decide) hrm hc hs hdg (fun H1 locs1 h1 h2 => kk H1 locs1 (by rw [← xW_setp]; exact h1) h2)
end XFL
end
section
def xF_leave (S : XS) (p1 : Int32) : Int32 × XS := (let q1 := xF_put S 2 p1 0; (let q3 := xF_put q1 0 p1 0; ((xh S 2 p1), q3)))
theorem hdX0_leave : yX0_leave.cls = RX0 ∧ yX0_leave.cls ≠ "java/lang/invoke/MethodHandle" ∧ yX0_leave.cls ≠ "java/lang/invoke/VarHandle" ∧ (parseMethodDescriptor yX0_leave.desc).map (fun d => d.parameters.length) = some 1 := by decide +kernel
set_option maxHeartbeats 4000000 in
set_option maxRecDepth 100000 in
theorem c_X0_leave (l : Launch) (D : va_G) (a : XA) (hO : xOk a) (S : XS) (p1 : Int32) (h24_0 : vp_in p1 24) : Met l yX0_leave wsX0_leave ({ frames := 4, cells := 0, slots := 0, locals := 86 }) (va_Pc [.ref (xa a), .int p1] (xB D a S)) (xQi D a (xF_leave S p1)) 0 0 (xA a) := by
  refine Met.ofW (cc := cX0_leave) (maxL := 3) (ret := (some .int)) (by decide) rfl ?_
  intro p e s m args below meth c s₁ B hml hv
  obtain ⟨rfl, hP, hK⟩ := hv
  have hx := B.exec
  have hb := B.bytes
  have hr := B.returns
  have hts := atoms_spec (ws := wsX0_leave) B.pre
  have hown : s.vm.findClass RX0 = some m.cls := findClass_of_methodNamed B.named
  have hlocks := B.notSynchronized
  have hS : va_S (xA a) s.heap s.heap [] := va_S.rf
  have hP : va_P D vwCl (xW a S) s.heap := hP
  have hu : ∀ w ∈ wsX00, w ∈ wsX0_leave := fun _ h => List.mem_cons_of_mem _ (List.mem_append_right _ h)
  have hf15 := hts (.fieldLink RX0 15 "FlightBooks" "held" "[[I") (by decide +kernel)
  have hl := lv_entry ([.ref (xa a), .int p1]) (n := 3) (Nat.le_of_ble_eq_true rfl)
  rw [lg_entry_eq]
  generalize (lg_sl ([.ref (xa a), .int p1]) ++ List.replicate (3 - (lg_sl ([.ref (xa a), .int p1])).length) Slot.unset).toArray = ls at hl ⊢
  have hl : lv_has ls 3 [(0, .ref (xa a)), (1, .int p1)] := hl
  refine lv_aload_n hx hb dX0_leave_0 rfl (lv_at hl 0 rfl) ?_
  refine x_get hx hb hts hu hown hK hP 2 (by decide) hf15 rfl (v := .ref (xah a)) rfl dX0_leave_1 ?_
  refine lv_iconst (v := 2) hx hb dX0_leave_4 (by decide) ?_
  refine x_aldh hx hb hK hP vp_k2_5 dX0_leave_5 ?_
  refine lv_iload_n hx hb dX0_leave_6 rfl (lv_at hl 1 rfl) ?_
  refine x_ldh hx hb hK hP vp_k2_5 h24_0 dX0_leave_7 ?_
  refine lv_istore_n (lv' := [(2, .int (xh S 2 p1)), (0, .ref (xa a)), (1, .int p1)]) hx hb dX0_leave_8 rfl hl (by decide) rfl (fun ls hl => ?_)
  refine lv_aload_n hx hb dX0_leave_9 rfl (lv_at hl 1 rfl) ?_
  refine lv_iconst (v := 2) hx hb dX0_leave_10 (by decide) ?_
  refine lv_iload_n hx hb dX0_leave_11 rfl (lv_at hl 2 rfl) ?_
  refine lv_iconst (v := 0) hx hb dX0_leave_12 (by decide) ?_
  refine va_callv (va_runV (As := [.int 2, .int p1, .int 0]) (rest := []) ⟨hx, hb, hml, hown, hts⟩ (c_X0_put l D a hO S 2 p1 0 vp_k2_5 h24_0) (cwV 3 hts gX0_leave_X0_put rfl rfl rfl hdX0_put ⟨Nat.le_of_ble_eq_true rfl, Nat.le_of_ble_eq_true rfl⟩) (xPreV hK hP) rfl rfl hl.1 rfl (lv_room (Nat.le_of_ble_eq_true rfl)) dX0_leave_13 ⟨Nat.zero_le _, Nat.zero_le _⟩) hS (fun q _ h => h) (fun q h => h) (fun S1 t H1 locs ht hvm hw1 hB hz1 hk1 hS => ?_)
  obtain ⟨hP, -⟩ := hB
  rw [ht] at hP
  refine lv_aload_n hx hb dX0_leave_16 rfl (lv_at hl 1 rfl) ?_
  refine lv_iconst (v := 0) hx hb dX0_leave_17 (by decide) ?_
  refine lv_iload_n hx hb dX0_leave_18 rfl (lv_at hl 2 rfl) ?_
  refine lv_iconst (v := 0) hx hb dX0_leave_19 (by decide) ?_
  refine va_callv (va_runV (As := [.int 0, .int p1, .int 0]) (rest := []) ⟨hx, hb, hml, hown, hts⟩ (c_X0_put l D a hO S1 0 p1 0 vp_k0_5 h24_0) (cwV 3 hts gX0_leave_X0_put rfl rfl rfl hdX0_put ⟨Nat.le_of_ble_eq_true rfl, Nat.le_of_ble_eq_true rfl⟩) (xPreV hK hP) rfl rfl hl.1 rfl (lv_room (Nat.le_of_ble_eq_true rfl)) dX0_leave_20 ⟨Nat.zero_le _, Nat.zero_le _⟩) hS (fun q _ h => h) (fun q h => h) (fun S3 t H1 locs ht hvm hw3 hB hz1 hk1 hS => ?_)
  obtain ⟨hP, -⟩ := hB
  rw [ht] at hP
  refine lv_iload_n hx hb dX0_leave_23 rfl (lv_at hl 0 rfl) ?_
  exact W.iret (v := (xh S 2 p1)) hx hb hr (fun t ht hW => ⟨⟨(xh S 2 p1), S3, rfl, (by simp only [xF_leave, hw1, hw3]), by rw [ht]; exact hP, va_K.moved hW.alike hK⟩, hS.F ht⟩) hS.2.2 dX0_leave_24
def xF_goOut (S : XS) (p1 : Int32) : Int32 × XS := (let q1 := xF_endsAtLine S 2 p1; (if q1.1 = 0 then (let q5 := xF_leave (xsEo (xsBo q1.2 ((xBo q1.2) + 1)) ((xEo (xsBo q1.2 ((xBo q1.2) + 1))) + (xh (xsBo q1.2 ((xBo q1.2) + 1)) 2 p1))) p1; (q5.1, q5.2)) else ((xLf q1.2), q1.2)))
theorem hdX0_goOut : yX0_goOut.cls = RX0 ∧ yX0_goOut.cls ≠ "java/lang/invoke/MethodHandle" ∧ yX0_goOut.cls ≠ "java/lang/invoke/VarHandle" ∧ (parseMethodDescriptor yX0_goOut.desc).map (fun d => d.parameters.length) = some 1 := by decide +kernel
set_option maxHeartbeats 4000000 in
set_option maxRecDepth 100000 in
theorem c_X0_goOut (l : Launch) (D : va_G) (a : XA) (hO : xOk a) (S : XS) (p1 : Int32) (hI : xI S) : Met l yX0_goOut wsX0_goOut ({ frames := 5, cells := 0, slots := 0, locals := 108 }) (va_Pc [.ref (xa a), .int p1] (xB D a S)) (xQi D a (xF_goOut S p1)) 0 0 (xA a) := by
  refine Met.ofW (cc := cX0_goOut) (maxL := 2) (ret := (some .int)) (by decide) rfl ?_
  intro p e s m args below meth c s₁ B hml hv
  obtain ⟨rfl, hP, hK⟩ := hv
  have hx := B.exec
  have hb := B.bytes
  have hr := B.returns
  have hts := atoms_spec (ws := wsX0_goOut) B.pre
  have hown : s.vm.findClass RX0 = some m.cls := findClass_of_methodNamed B.named
  have hlocks := B.notSynchronized
  have hS : va_S (xA a) s.heap s.heap [] := va_S.rf
  have hP : va_P D vwCl (xW a S) s.heap := hP
  have hu : ∀ w ∈ wsX00, w ∈ wsX0_goOut := fun _ h => List.mem_cons_of_mem _ (List.mem_append_right _ h)
  have hf28 := hts (.fieldLink RX0 28 "FlightBooks" "bargesOut" "I") (by decide +kernel)
  have hf31 := hts (.fieldLink RX0 31 "FlightBooks" "eighthsOut" "I") (by decide +kernel)
  have hf15 := hts (.fieldLink RX0 15 "FlightBooks" "held" "[[I") (by decide +kernel)
  have hf37 := hts (.fieldLink RX0 37 "FlightBooks" "latestFault" "I") (by decide +kernel)
  have hl := lv_entry ([.ref (xa a), .int p1]) (n := 2) (Nat.le_of_ble_eq_true rfl)
  rw [lg_entry_eq]
  generalize (lg_sl ([.ref (xa a), .int p1]) ++ List.replicate (2 - (lg_sl ([.ref (xa a), .int p1])).length) Slot.unset).toArray = ls at hl ⊢
  have hl : lv_has ls 2 [(0, .ref (xa a)), (1, .int p1)] := hl
  refine lv_aload_n hx hb dX0_goOut_0 rfl (lv_at hl 0 rfl) ?_
  refine lv_iconst (v := 2) hx hb dX0_goOut_1 (by decide) ?_
  refine lv_iload_n hx hb dX0_goOut_2 rfl (lv_at hl 1 rfl) ?_
  refine va_calli (va_runV (As := [.int 2, .int p1]) (rest := []) ⟨hx, hb, hml, hown, hts⟩ (c_X0_endsAtLine l D a hO S 2 p1 hI vp_k2_5) (cwV 2 hts gX0_goOut_X0_endsAtLine rfl rfl rfl hdX0_endsAtLine ⟨Nat.le_of_ble_eq_true rfl, Nat.le_of_ble_eq_true rfl⟩) (xPreV hK hP) rfl rfl hl.1 rfl (lv_room (Nat.le_of_ble_eq_true rfl)) dX0_goOut_3 ⟨Nat.zero_le _, Nat.zero_le _⟩) hS (fun q _ h => h) (fun q h => h) (fun r1 S1 t H1 locs ht hvm hw1 hB hz1 hk1 hS => ?_)
  obtain ⟨hP, -⟩ := hB
  rw [ht] at hP
  refine lv_if_eq (tgt := 14) hx hb dX0_goOut_6 (by decide) (fun c3 => ?_) (fun c3 => ?_)
  · obtain ⟨hn4, hs4⟩ := xe_endsAtLine hI vp_k2_5 hw1 c3
    subst hs4
    refine lv_aload_n hx hb dX0_goOut_14 rfl (lv_at hl 0 rfl) ?_
    refine lv_dup hx hb dX0_goOut_15 rfl ?_
    refine x_get hx hb hts hu hown hK hP 6 (by decide) hf28 rfl (v := .int (xBo S)) rfl dX0_goOut_16 ?_
    refine lv_iconst (v := 1) hx hb dX0_goOut_19 (by decide) ?_
    refine lv_iadd hx hb dX0_goOut_20 ?_
    refine x_put hx hb hts hu hown hO hK hP hS 6 (by decide) hf28 rfl rfl (by decide +kernel) (xsBo S ((xBo S) + 1)) rfl rfl dX0_goOut_21 (fun H locs hP hS => ?_)
    refine lv_aload_n hx hb dX0_goOut_24 rfl (lv_at hl 0 rfl) ?_
    refine lv_dup hx hb dX0_goOut_25 rfl ?_
    refine x_get hx hb hts hu hown hK hP 7 (by decide) hf31 rfl (v := .int (xEo (xsBo S ((xBo S) + 1)))) rfl dX0_goOut_26 ?_
    refine lv_aload_n hx hb dX0_goOut_29 rfl (lv_at hl 0 rfl) ?_
    refine x_get hx hb hts hu hown hK hP 2 (by decide) hf15 rfl (v := .ref (xah a)) rfl dX0_goOut_30 ?_
    refine lv_iconst (v := 2) hx hb dX0_goOut_33 (by decide) ?_
    refine x_aldh hx hb hK hP vp_k2_5 dX0_goOut_34 ?_
    refine lv_iload_n hx hb dX0_goOut_35 rfl (lv_at hl 1 rfl) ?_
    refine x_ldh hx hb hK hP vp_k2_5 hn4 dX0_goOut_36 ?_
    refine lv_iadd hx hb dX0_goOut_37 ?_
    refine x_put hx hb hts hu hown hO hK hP hS 7 (by decide) hf31 rfl rfl (by decide +kernel) (xsEo (xsBo S ((xBo S) + 1)) ((xEo (xsBo S ((xBo S) + 1))) + (xh (xsBo S ((xBo S) + 1)) 2 p1))) rfl rfl dX0_goOut_38 (fun H locs hP hS => ?_)
    refine lv_aload_n hx hb dX0_goOut_41 rfl (lv_at hl 0 rfl) ?_
    refine lv_iload_n hx hb dX0_goOut_42 rfl (lv_at hl 1 rfl) ?_
    refine va_calli (va_runV (As := [.int p1]) (rest := []) ⟨hx, hb, hml, hown, hts⟩ (c_X0_leave l D a hO (xsEo (xsBo S ((xBo S) + 1)) ((xEo (xsBo S ((xBo S) + 1))) + (xh (xsBo S ((xBo S) + 1)) 2 p1))) p1 hn4) (cwV 1 hts gX0_goOut_X0_leave rfl rfl rfl hdX0_leave ⟨Nat.le_of_ble_eq_true rfl, Nat.le_of_ble_eq_true rfl⟩) (xPreV hK hP) rfl rfl hl.1 rfl (lv_room (Nat.le_of_ble_eq_true rfl)) dX0_goOut_43 ⟨Nat.zero_le _, Nat.zero_le _⟩) hS (fun q _ h => h) (fun q h => h) (fun r5 S5 t H1 locs ht hvm hw5 hB hz1 hk1 hS => ?_)
    obtain ⟨hP, -⟩ := hB
    rw [ht] at hP
    exact W.iret (v := r5) hx hb hr (fun t ht hW => ⟨⟨r5, S5, rfl, (by simp only [xF_goOut, hw1, if_pos c3, hw5]), by rw [ht]; exact hP, va_K.moved hW.alike hK⟩, hS.F ht⟩) hS.2.2 dX0_goOut_46
  · refine lv_aload_n hx hb dX0_goOut_9 rfl (lv_at hl 0 rfl) ?_
    refine x_get hx hb hts hu hown hK hP 9 (by decide) hf37 rfl (v := .int (xLf S1)) rfl dX0_goOut_10 ?_
    exact W.iret (v := (xLf S1)) hx hb hr (fun t ht hW => ⟨⟨(xLf S1), S1, rfl, (by simp only [xF_goOut, hw1, if_neg c3]), by rw [ht]; exact hP, va_K.moved hW.alike hK⟩, hS.F ht⟩) hS.2.2 dX0_goOut_13
def xF_goOn (S : XS) (p1 : Int32) : Int32 × XS := (let q1 := xF_endsAtLine S 0 (p1 + 1); (if q1.1 = 0 then (if (xh q1.2 0 (p1 + 1)) = 0 then (let q6 := xF_endsAtLine q1.2 2 p1; (if q6.1 = 0 then (let q10 := xF_endsAtArrival q6.2 (p1 + 1) (xh q6.2 0 p1) (xh q6.2 2 p1); (if q10.1 = 0 then (let q14 := xF_leave q10.2 p1; (q14.1, q14.2)) else ((xLf q10.2), q10.2))) else ((xLf q6.2), q6.2))) else ((-4), q1.2)) else ((xLf q1.2), q1.2)))
theorem hdX0_goOn : yX0_goOn.cls = RX0 ∧ yX0_goOn.cls ≠ "java/lang/invoke/MethodHandle" ∧ yX0_goOn.cls ≠ "java/lang/invoke/VarHandle" ∧ (parseMethodDescriptor yX0_goOn.desc).map (fun d => d.parameters.length) = some 1 := by decide +kernel
set_option maxHeartbeats 4000000 in
set_option maxRecDepth 100000 in
theorem c_X0_goOn (l : Launch) (D : va_G) (a : XA) (hO : xOk a) (S : XS) (p1 : Int32) (hI : xI S) (h24_0 : vp_in p1 24) : Met l yX0_goOn wsX0_goOn ({ frames := 5, cells := 0, slots := 0, locals := 109 }) (va_Pc [.ref (xa a), .int p1] (xB D a S)) (xQi D a (xF_goOn S p1)) 0 0 (xA a) := by
  refine Met.ofW (cc := cX0_goOn) (maxL := 3) (ret := (some .int)) (by decide) rfl ?_
  intro p e s m args below meth c s₁ B hml hv
  obtain ⟨rfl, hP, hK⟩ := hv
  have hx := B.exec
  have hb := B.bytes
  have hr := B.returns
  have hts := atoms_spec (ws := wsX0_goOn) B.pre
  have hown : s.vm.findClass RX0 = some m.cls := findClass_of_methodNamed B.named
  have hlocks := B.notSynchronized
  have hS : va_S (xA a) s.heap s.heap [] := va_S.rf
  have hP : va_P D vwCl (xW a S) s.heap := hP
  have hu : ∀ w ∈ wsX00, w ∈ wsX0_goOn := fun _ h => List.mem_cons_of_mem _ (List.mem_append_right _ h)
  have hf15 := hts (.fieldLink RX0 15 "FlightBooks" "held" "[[I") (by decide +kernel)
  have hf37 := hts (.fieldLink RX0 37 "FlightBooks" "latestFault" "I") (by decide +kernel)
  have hl := lv_entry ([.ref (xa a), .int p1]) (n := 3) (Nat.le_of_ble_eq_true rfl)
  rw [lg_entry_eq]
  generalize (lg_sl ([.ref (xa a), .int p1]) ++ List.replicate (3 - (lg_sl ([.ref (xa a), .int p1])).length) Slot.unset).toArray = ls at hl ⊢
  have hl : lv_has ls 3 [(0, .ref (xa a)), (1, .int p1)] := hl
  refine lv_iload_n hx hb dX0_goOn_0 rfl (lv_at hl 1 rfl) ?_
  refine lv_iconst (v := 1) hx hb dX0_goOn_1 (by decide) ?_
  refine lv_iadd hx hb dX0_goOn_2 ?_
  refine lv_istore_n (lv' := [(2, .int (p1 + 1)), (0, .ref (xa a)), (1, .int p1)]) hx hb dX0_goOn_3 rfl hl (by decide) rfl (fun ls hl => ?_)
  refine lv_aload_n hx hb dX0_goOn_4 rfl (lv_at hl 1 rfl) ?_
  refine lv_iconst (v := 0) hx hb dX0_goOn_5 (by decide) ?_
  refine lv_iload_n hx hb dX0_goOn_6 rfl (lv_at hl 0 rfl) ?_
  refine va_calli (va_runV (As := [.int 0, .int (p1 + 1)]) (rest := []) ⟨hx, hb, hml, hown, hts⟩ (c_X0_endsAtLine l D a hO S 0 (p1 + 1) hI vp_k0_5) (cwV 2 hts gX0_goOn_X0_endsAtLine rfl rfl rfl hdX0_endsAtLine ⟨Nat.le_of_ble_eq_true rfl, Nat.le_of_ble_eq_true rfl⟩) (xPreV hK hP) rfl rfl hl.1 rfl (lv_room (Nat.le_of_ble_eq_true rfl)) dX0_goOn_7 ⟨Nat.zero_le _, Nat.zero_le _⟩) hS (fun q _ h => h) (fun q h => h) (fun r1 S1 t H1 locs ht hvm hw1 hB hz1 hk1 hS => ?_)
  obtain ⟨hP, -⟩ := hB
  rw [ht] at hP
  refine lv_if_eq (tgt := 18) hx hb dX0_goOn_10 (by decide) (fun c3 => ?_) (fun c3 => ?_)
  · obtain ⟨hn4, hs4⟩ := xe_endsAtLine hI vp_k0_5 hw1 c3
    subst hs4
    refine lv_aload_n hx hb dX0_goOn_18 rfl (lv_at hl 1 rfl) ?_
    refine x_get hx hb hts hu hown hK hP 2 (by decide) hf15 rfl (v := .ref (xah a)) rfl dX0_goOn_19 ?_
    refine lv_iconst (v := 0) hx hb dX0_goOn_22 (by decide) ?_
    refine x_aldh hx hb hK hP vp_k0_5 dX0_goOn_23 ?_
    refine lv_iload_n hx hb dX0_goOn_24 rfl (lv_at hl 0 rfl) ?_
    refine x_ldh hx hb hK hP vp_k0_5 hn4 dX0_goOn_25 ?_
    refine lv_if_eq (tgt := 32) hx hb dX0_goOn_26 (by decide) (fun c5 => ?_) (fun c5 => ?_)
    · refine lv_aload_n hx hb dX0_goOn_32 rfl (lv_at hl 1 rfl) ?_
      refine lv_iconst (v := 2) hx hb dX0_goOn_33 (by decide) ?_
      refine lv_iload_n hx hb dX0_goOn_34 rfl (lv_at hl 2 rfl) ?_
      refine va_calli (va_runV (As := [.int 2, .int p1]) (rest := []) ⟨hx, hb, hml, hown, hts⟩ (c_X0_endsAtLine l D a hO S 2 p1 hI vp_k2_5) (cwV 2 hts gX0_goOn_X0_endsAtLine rfl rfl rfl hdX0_endsAtLine ⟨Nat.le_of_ble_eq_true rfl, Nat.le_of_ble_eq_true rfl⟩) (xPreV hK hP) rfl rfl hl.1 rfl (lv_room (Nat.le_of_ble_eq_true rfl)) dX0_goOn_35 ⟨Nat.zero_le _, Nat.zero_le _⟩) hS (fun q _ h => h) (fun q h => h) (fun r6 S6 t H1 locs ht hvm hw6 hB hz1 hk1 hS => ?_)
      obtain ⟨hP, -⟩ := hB
      rw [ht] at hP
      refine lv_if_eq (tgt := 46) hx hb dX0_goOn_38 (by decide) (fun c8 => ?_) (fun c8 => ?_)
      · obtain ⟨hn9, hs9⟩ := xe_endsAtLine hI vp_k2_5 hw6 c8
        subst hs9
        refine lv_aload_n hx hb dX0_goOn_46 rfl (lv_at hl 1 rfl) ?_
        refine lv_iload_n hx hb dX0_goOn_47 rfl (lv_at hl 0 rfl) ?_
        refine lv_aload_n hx hb dX0_goOn_48 rfl (lv_at hl 1 rfl) ?_
        refine x_get hx hb hts hu hown hK hP 2 (by decide) hf15 rfl (v := .ref (xah a)) rfl dX0_goOn_49 ?_
        refine lv_iconst (v := 0) hx hb dX0_goOn_52 (by decide) ?_
        refine x_aldh hx hb hK hP vp_k0_5 dX0_goOn_53 ?_
        refine lv_iload_n hx hb dX0_goOn_54 rfl (lv_at hl 2 rfl) ?_
        refine x_ldh hx hb hK hP vp_k0_5 hn9 dX0_goOn_55 ?_
        refine lv_aload_n hx hb dX0_goOn_56 rfl (lv_at hl 1 rfl) ?_
        refine x_get hx hb hts hu hown hK hP 2 (by decide) hf15 rfl (v := .ref (xah a)) rfl dX0_goOn_57 ?_
        refine lv_iconst (v := 2) hx hb dX0_goOn_60 (by decide) ?_
        refine x_aldh hx hb hK hP vp_k2_5 dX0_goOn_61 ?_
        refine lv_iload_n hx hb dX0_goOn_62 rfl (lv_at hl 2 rfl) ?_
        refine x_ldh hx hb hK hP vp_k2_5 hn9 dX0_goOn_63 ?_
        refine va_calli (va_runV (As := [.int (p1 + 1), .int (xh S 0 p1), .int (xh S 2 p1)]) (rest := []) ⟨hx, hb, hml, hown, hts⟩ (c_X0_endsAtArrival l D a hO S (p1 + 1) (xh S 0 p1) (xh S 2 p1) hI) (cwV 3 hts gX0_goOn_X0_endsAtArrival rfl rfl rfl hdX0_endsAtArrival ⟨Nat.le_of_ble_eq_true rfl, Nat.le_of_ble_eq_true rfl⟩) (xPreV hK hP) rfl rfl hl.1 rfl (lv_room (Nat.le_of_ble_eq_true rfl)) dX0_goOn_64 ⟨Nat.zero_le _, Nat.zero_le _⟩) hS (fun q _ h => h) (fun q h => h) (fun r10 S10 t H1 locs ht hvm hw10 hB hz1 hk1 hS => ?_)
        obtain ⟨hP, -⟩ := hB
        rw [ht] at hP
        have hI := xI_endsAtArrival hI hw10
        refine lv_if_eq (tgt := 75) hx hb dX0_goOn_67 (by decide) (fun c12 => ?_) (fun c12 => ?_)
        · refine lv_aload_n hx hb dX0_goOn_75 rfl (lv_at hl 1 rfl) ?_
          refine lv_iload_n hx hb dX0_goOn_76 rfl (lv_at hl 2 rfl) ?_
          refine va_calli (va_runV (As := [.int p1]) (rest := []) ⟨hx, hb, hml, hown, hts⟩ (c_X0_leave l D a hO S10 p1 hn9) (cwV 1 hts gX0_goOn_X0_leave rfl rfl rfl hdX0_leave ⟨Nat.le_of_ble_eq_true rfl, Nat.le_of_ble_eq_true rfl⟩) (xPreV hK hP) rfl rfl hl.1 rfl (lv_room (Nat.le_of_ble_eq_true rfl)) dX0_goOn_77 ⟨Nat.zero_le _, Nat.zero_le _⟩) hS (fun q _ h => h) (fun q h => h) (fun r14 S14 t H1 locs ht hvm hw14 hB hz1 hk1 hS => ?_)
          obtain ⟨hP, -⟩ := hB
          rw [ht] at hP
          exact W.iret (v := r14) hx hb hr (fun t ht hW => ⟨⟨r14, S14, rfl, (by simp only [xF_goOn, hw1, if_pos c3, if_pos c5, hw6, if_pos c8, hw10, if_pos c12, hw14]), by rw [ht]; exact hP, va_K.moved hW.alike hK⟩, hS.F ht⟩) hS.2.2 dX0_goOn_80
        · refine lv_aload_n hx hb dX0_goOn_70 rfl (lv_at hl 1 rfl) ?_
          refine x_get hx hb hts hu hown hK hP 9 (by decide) hf37 rfl (v := .int (xLf S10)) rfl dX0_goOn_71 ?_
          exact W.iret (v := (xLf S10)) hx hb hr (fun t ht hW => ⟨⟨(xLf S10), S10, rfl, (by simp only [xF_goOn, hw1, if_pos c3, if_pos c5, hw6, if_pos c8, hw10, if_neg c12]), by rw [ht]; exact hP, va_K.moved hW.alike hK⟩, hS.F ht⟩) hS.2.2 dX0_goOn_74
      · refine lv_aload_n hx hb dX0_goOn_41 rfl (lv_at hl 1 rfl) ?_
        refine x_get hx hb hts hu hown hK hP 9 (by decide) hf37 rfl (v := .int (xLf S6)) rfl dX0_goOn_42 ?_
        exact W.iret (v := (xLf S6)) hx hb hr (fun t ht hW => ⟨⟨(xLf S6), S6, rfl, (by simp only [xF_goOn, hw1, if_pos c3, if_pos c5, hw6, if_neg c8]), by rw [ht]; exact hP, va_K.moved hW.alike hK⟩, hS.F ht⟩) hS.2.2 dX0_goOn_45
    · refine lv_bipush (v := (-4)) hx hb dX0_goOn_29 (by decide) ?_
      exact W.iret (v := (-4)) hx hb hr (fun t ht hW => ⟨⟨(-4), S, rfl, (by simp only [xF_goOn, hw1, if_pos c3, if_neg c5]), by rw [ht]; exact hP, va_K.moved hW.alike hK⟩, hS.F ht⟩) hS.2.2 dX0_goOn_31
  · refine lv_aload_n hx hb dX0_goOn_13 rfl (lv_at hl 1 rfl) ?_
    refine x_get hx hb hts hu hown hK hP 9 (by decide) hf37 rfl (v := .int (xLf S1)) rfl dX0_goOn_14 ?_
    exact W.iret (v := (xLf S1)) hx hb hr (fun t ht hW => ⟨⟨(xLf S1), S1, rfl, (by simp only [xF_goOn, hw1, if_neg c3]), by rw [ht]; exact hP, va_K.moved hW.alike hK⟩, hS.F ht⟩) hS.2.2 dX0_goOn_17
end
section
def xF_keep (S : XS) (p1 p2 : Int32) : Int32 × XS := (if (xF_isBook p1) = 0 then ((-300000), S) else (if p2 ≤ 24 then (if 0 ≤ p2 then (0, (xsc (xsH S (va_up (xH S) (Int32.toNatClampNeg p1) (fun _ => 0))) p1 p2)) else ((-3), S)) else ((-2), S)))
theorem hdX0_keep : yX0_keep.cls = RX0 ∧ yX0_keep.cls ≠ "java/lang/invoke/MethodHandle" ∧ yX0_keep.cls ≠ "java/lang/invoke/VarHandle" ∧ (parseMethodDescriptor yX0_keep.desc).map (fun d => d.parameters.length) = some 2 := by decide +kernel
set_option maxHeartbeats 4000000 in
set_option maxRecDepth 100000 in
theorem c_X0_keep (l : Launch) (D : va_G) (a : XA) (hO : xOk a) (S : XS) (p1 p2 : Int32) : Met l yX0_keep wsX0_keep ({ frames := 1, cells := 0, slots := 0, locals := 23 }) (va_Pc [.ref (xa a), .int p1, .int p2] (xB D a S)) (xQi D a (xF_keep S p1 p2)) 0 0 (xA a) := by
  refine Met.ofW (cc := cX0_keep) (maxL := 3) (ret := (some .int)) (by decide) rfl ?_
  intro p e s m args below meth c s₁ B hml hv
  obtain ⟨rfl, hP, hK⟩ := hv
  have hx := B.exec
  have hb := B.bytes
  have hr := B.returns
  have hts := atoms_spec (ws := wsX0_keep) B.pre
  have hown : s.vm.findClass RX0 = some m.cls := findClass_of_methodNamed B.named
  have hlocks := B.notSynchronized
  have hS : va_S (xA a) s.heap s.heap [] := va_S.rf
  have hP : va_P D vwCl (xW a S) s.heap := hP
  have hu : ∀ w ∈ wsX00, w ∈ wsX0_keep := fun _ h => List.mem_cons_of_mem _ (List.mem_append_right _ h)
  have hf15 := hts (.fieldLink RX0 15 "FlightBooks" "held" "[[I") (by decide +kernel)
  have hf9 := hts (.fieldLink RX0 9 "FlightBooks" "lineCounts" "[I") (by decide +kernel)
  have hk57 := hts (.constant RX0 57 (-300000)) (by decide +kernel)
  have hl := lv_entry ([.ref (xa a), .int p1, .int p2]) (n := 3) (Nat.le_of_ble_eq_true rfl)
  rw [lg_entry_eq]
  generalize (lg_sl ([.ref (xa a), .int p1, .int p2]) ++ List.replicate (3 - (lg_sl ([.ref (xa a), .int p1, .int p2])).length) Slot.unset).toArray = ls at hl ⊢
  have hl : lv_has ls 3 [(0, .ref (xa a)), (1, .int p1), (2, .int p2)] := hl
  refine lv_iload_n hx hb dX0_keep_0 rfl (lv_at hl 1 rfl) ?_
  refine va_calli (va_runS (As := [.int p1]) (rest := []) ⟨hx, hb, hml, hown, hts⟩ (c_X0_isBook l p1) (va_cwS 1 hts gX0_keep_X0_isBook rfl rfl rfl hdX0_isBook ⟨Nat.le_of_ble_eq_true rfl, Nat.le_of_ble_eq_true rfl⟩) pPreS rfl rfl hl.1 rfl (lv_room (Nat.le_of_ble_eq_true rfl)) dX0_keep_1 ⟨Nat.zero_le _, Nat.zero_le _⟩) hS (fun q _ h => h.elim) (fun q h => h.elim) (fun r1 u1 t H1 locs ht hvm hw1 hB hz1 hk1 hS => ?_)
  have hP := P_kept hP hk1
  refine lv_if_ne (tgt := 10) hx hb dX0_keep_4 (by decide) (fun c2 => ?_) (fun c2 => ?_)
  · have hn3 := xe_book hw1 c2
    refine lv_iload_n hx hb dX0_keep_10 rfl (lv_at hl 2 rfl) ?_
    refine lv_bipush (v := 24) hx hb dX0_keep_11 (by decide) ?_
    refine lv_icmp_le (tgt := 19) hx hb dX0_keep_13 (by decide) (fun c4 => ?_) (fun c4 => ?_)
    · refine lv_iload_n hx hb dX0_keep_19 rfl (lv_at hl 2 rfl) ?_
      refine lv_if_ge (tgt := 26) hx hb dX0_keep_20 (by decide) (fun c5 => ?_) (fun c5 => ?_)
      · refine lv_aload_n hx hb dX0_keep_26 rfl (lv_at hl 0 rfl) ?_
        refine x_get hx hb hts hu hown hK hP 2 (by decide) hf15 rfl (v := .ref (xah a)) rfl dX0_keep_27 ?_
        refine lv_iload_n hx hb dX0_keep_30 rfl (lv_at hl 1 rfl) ?_
        refine x_aldh hx hb hK hP hn3 dX0_keep_31 ?_
        refine lv_iconst (v := 0) hx hb dX0_keep_32 (by decide) ?_
        refine x_fillh (rest := []) hx hb hml hl.1 hown hts gX0_keep_J7_fill_53178 (Nat.le_of_ble_eq_true rfl) (Nat.le_of_ble_eq_true rfl) (Nat.zero_le _) (Nat.zero_le _) (Nat.zero_le _) hO hK hP hS hn3 dX0_keep_33 (fun H locs hP hS => ?_)
        refine lv_aload_n hx hb dX0_keep_36 rfl (lv_at hl 0 rfl) ?_
        refine x_get hx hb hts hu hown hK hP 1 (by decide) hf9 rfl (v := .ref (xac a)) rfl dX0_keep_37 ?_
        refine lv_iload_n hx hb dX0_keep_40 rfl (lv_at hl 1 rfl) ?_
        refine lv_iload_n hx hb dX0_keep_41 rfl (lv_at hl 2 rfl) ?_
        refine x_stc hx hb hO hK hP hS hn3 dX0_keep_42 (fun H locs hP hS => ?_)
        refine lv_iconst (v := 0) hx hb dX0_keep_43 (by decide) ?_
        exact W.iret (v := 0) hx hb hr (fun t ht hW => ⟨⟨0, (xsc (xsH S (va_up (xH S) (Int32.toNatClampNeg p1) (fun _ => 0))) p1 p2), rfl, (by simp only [xF_keep, hw1, if_neg c2, if_pos c4, if_pos c5]), by rw [ht]; exact hP, va_K.moved hW.alike hK⟩, hS.F ht⟩) hS.2.2 dX0_keep_44
      · refine lv_bipush (v := (-3)) hx hb dX0_keep_23 (by decide) ?_
        exact W.iret (v := (-3)) hx hb hr (fun t ht hW => ⟨⟨(-3), S, rfl, (by simp only [xF_keep, hw1, if_neg c2, if_pos c4, if_neg c5]), by rw [ht]; exact hP, va_K.moved hW.alike hK⟩, hS.F ht⟩) hS.2.2 dX0_keep_25
    · refine lv_bipush (v := (-2)) hx hb dX0_keep_16 (by decide) ?_
      exact W.iret (v := (-2)) hx hb hr (fun t ht hW => ⟨⟨(-2), S, rfl, (by simp only [xF_keep, hw1, if_neg c2, if_neg c4]), by rw [ht]; exact hP, va_K.moved hW.alike hK⟩, hS.F ht⟩) hS.2.2 dX0_keep_18
  · refine lv_ldc (v := (-300000)) hx hb hown hk57 dX0_keep_7 ?_
    exact W.iret (v := (-300000)) hx hb hr (fun t ht hW => ⟨⟨(-300000), S, rfl, (by simp only [xF_keep, hw1, if_pos c2]), by rw [ht]; exact hP, va_K.moved hW.alike hK⟩, hS.F ht⟩) hS.2.2 dX0_keep_9
def xF_lose (S : XS) (p1 : Int32) : Int32 × XS := (if (xF_isBook p1) = 0 then ((-300000), S) else (if (xc S p1) = (-1) then (0, S) else (1, (xsc S p1 (-1)))))
theorem hdX0_lose : yX0_lose.cls = RX0 ∧ yX0_lose.cls ≠ "java/lang/invoke/MethodHandle" ∧ yX0_lose.cls ≠ "java/lang/invoke/VarHandle" ∧ (parseMethodDescriptor yX0_lose.desc).map (fun d => d.parameters.length) = some 1 := by decide +kernel
set_option maxHeartbeats 4000000 in
set_option maxRecDepth 100000 in
theorem c_X0_lose (l : Launch) (D : va_G) (a : XA) (hO : xOk a) (S : XS) (p1 : Int32) : Met l yX0_lose wsX0_lose ({ frames := 1, cells := 0, slots := 0, locals := 20 }) (va_Pc [.ref (xa a), .int p1] (xB D a S)) (xQi D a (xF_lose S p1)) 0 0 (xA a) := by
  refine Met.ofW (cc := cX0_lose) (maxL := 2) (ret := (some .int)) (by decide) rfl ?_
  intro p e s m args below meth c s₁ B hml hv
  obtain ⟨rfl, hP, hK⟩ := hv
  have hx := B.exec
  have hb := B.bytes
  have hr := B.returns
  have hts := atoms_spec (ws := wsX0_lose) B.pre
  have hown : s.vm.findClass RX0 = some m.cls := findClass_of_methodNamed B.named
  have hlocks := B.notSynchronized
  have hS : va_S (xA a) s.heap s.heap [] := va_S.rf
  have hP : va_P D vwCl (xW a S) s.heap := hP
  have hu : ∀ w ∈ wsX00, w ∈ wsX0_lose := fun _ h => List.mem_cons_of_mem _ (List.mem_append_right _ h)
  have hf9 := hts (.fieldLink RX0 9 "FlightBooks" "lineCounts" "[I") (by decide +kernel)
  have hk57 := hts (.constant RX0 57 (-300000)) (by decide +kernel)
  have hl := lv_entry ([.ref (xa a), .int p1]) (n := 2) (Nat.le_of_ble_eq_true rfl)
  rw [lg_entry_eq]
  generalize (lg_sl ([.ref (xa a), .int p1]) ++ List.replicate (2 - (lg_sl ([.ref (xa a), .int p1])).length) Slot.unset).toArray = ls at hl ⊢
  have hl : lv_has ls 2 [(0, .ref (xa a)), (1, .int p1)] := hl
  refine lv_iload_n hx hb dX0_lose_0 rfl (lv_at hl 1 rfl) ?_
  refine va_calli (va_runS (As := [.int p1]) (rest := []) ⟨hx, hb, hml, hown, hts⟩ (c_X0_isBook l p1) (va_cwS 1 hts gX0_lose_X0_isBook rfl rfl rfl hdX0_isBook ⟨Nat.le_of_ble_eq_true rfl, Nat.le_of_ble_eq_true rfl⟩) pPreS rfl rfl hl.1 rfl (lv_room (Nat.le_of_ble_eq_true rfl)) dX0_lose_1 ⟨Nat.zero_le _, Nat.zero_le _⟩) hS (fun q _ h => h.elim) (fun q h => h.elim) (fun r1 u1 t H1 locs ht hvm hw1 hB hz1 hk1 hS => ?_)
  have hP := P_kept hP hk1
  refine lv_if_ne (tgt := 10) hx hb dX0_lose_4 (by decide) (fun c2 => ?_) (fun c2 => ?_)
  · have hn3 := xe_book hw1 c2
    refine lv_aload_n hx hb dX0_lose_10 rfl (lv_at hl 0 rfl) ?_
    refine x_get hx hb hts hu hown hK hP 1 (by decide) hf9 rfl (v := .ref (xac a)) rfl dX0_lose_11 ?_
    refine lv_iload_n hx hb dX0_lose_14 rfl (lv_at hl 1 rfl) ?_
    refine x_ldc hx hb hK hP hn3 dX0_lose_15 ?_
    refine lv_iconst (v := (-1)) hx hb dX0_lose_16 (by decide) ?_
    refine lv_icmp_ne (tgt := 22) hx hb dX0_lose_17 (by decide) (fun c4 => ?_) (fun c4 => ?_)
    · refine lv_aload_n hx hb dX0_lose_22 rfl (lv_at hl 0 rfl) ?_
      refine x_get hx hb hts hu hown hK hP 1 (by decide) hf9 rfl (v := .ref (xac a)) rfl dX0_lose_23 ?_
      refine lv_iload_n hx hb dX0_lose_26 rfl (lv_at hl 1 rfl) ?_
      refine lv_iconst (v := (-1)) hx hb dX0_lose_27 (by decide) ?_
      refine x_stc hx hb hO hK hP hS hn3 dX0_lose_28 (fun H locs hP hS => ?_)
      refine lv_iconst (v := 1) hx hb dX0_lose_29 (by decide) ?_
      exact W.iret (v := 1) hx hb hr (fun t ht hW => ⟨⟨1, (xsc S p1 (-1)), rfl, (by simp only [xF_lose, hw1, if_neg c2, if_neg c4]), by rw [ht]; exact hP, va_K.moved hW.alike hK⟩, hS.F ht⟩) hS.2.2 dX0_lose_30
    · refine lv_iconst (v := 0) hx hb dX0_lose_20 (by decide) ?_
      exact W.iret (v := 0) hx hb hr (fun t ht hW => ⟨⟨0, S, rfl, (by simp only [xF_lose, hw1, if_neg c2, if_pos c4]), by rw [ht]; exact hP, va_K.moved hW.alike hK⟩, hS.F ht⟩) hS.2.2 dX0_lose_21
  · refine lv_ldc (v := (-300000)) hx hb hown hk57 dX0_lose_7 ?_
    exact W.iret (v := (-300000)) hx hb hr (fun t ht hW => ⟨⟨(-300000), S, rfl, (by simp only [xF_lose, hw1, if_pos c2]), by rw [ht]; exact hP, va_K.moved hW.alike hK⟩, hS.F ht⟩) hS.2.2 dX0_lose_9
def xF_lines (S : XS) (p1 : Int32) : Int32 × XS := (if (xF_isBook p1) = 0 then ((-300000), S) else (let q4 := xF_endsAtBook S p1; (if q4.1 = 0 then ((xc q4.2 p1), q4.2) else ((xLf q4.2), q4.2))))
theorem hdX0_lines : yX0_lines.cls = RX0 ∧ yX0_lines.cls ≠ "java/lang/invoke/MethodHandle" ∧ yX0_lines.cls ≠ "java/lang/invoke/VarHandle" ∧ (parseMethodDescriptor yX0_lines.desc).map (fun d => d.parameters.length) = some 1 := by decide +kernel
set_option maxHeartbeats 4000000 in
set_option maxRecDepth 100000 in
theorem c_X0_lines (l : Launch) (D : va_G) (a : XA) (hO : xOk a) (S : XS) (p1 : Int32) : Met l yX0_lines wsX0_lines ({ frames := 2, cells := 0, slots := 0, locals := 42 }) (va_Pc [.ref (xa a), .int p1] (xB D a S)) (xQi D a (xF_lines S p1)) 0 0 (xA a) := by
  refine Met.ofW (cc := cX0_lines) (maxL := 2) (ret := (some .int)) (by decide) rfl ?_
  intro p e s m args below meth c s₁ B hml hv
  obtain ⟨rfl, hP, hK⟩ := hv
  have hx := B.exec
  have hb := B.bytes
  have hr := B.returns
  have hts := atoms_spec (ws := wsX0_lines) B.pre
  have hown : s.vm.findClass RX0 = some m.cls := findClass_of_methodNamed B.named
  have hlocks := B.notSynchronized
  have hS : va_S (xA a) s.heap s.heap [] := va_S.rf
  have hP : va_P D vwCl (xW a S) s.heap := hP
  have hu : ∀ w ∈ wsX00, w ∈ wsX0_lines := fun _ h => List.mem_cons_of_mem _ (List.mem_append_right _ h)
  have hf9 := hts (.fieldLink RX0 9 "FlightBooks" "lineCounts" "[I") (by decide +kernel)
  have hf37 := hts (.fieldLink RX0 37 "FlightBooks" "latestFault" "I") (by decide +kernel)
  have hk57 := hts (.constant RX0 57 (-300000)) (by decide +kernel)
  have hl := lv_entry ([.ref (xa a), .int p1]) (n := 2) (Nat.le_of_ble_eq_true rfl)
  rw [lg_entry_eq]
  generalize (lg_sl ([.ref (xa a), .int p1]) ++ List.replicate (2 - (lg_sl ([.ref (xa a), .int p1])).length) Slot.unset).toArray = ls at hl ⊢
  have hl : lv_has ls 2 [(0, .ref (xa a)), (1, .int p1)] := hl
  refine lv_iload_n hx hb dX0_lines_0 rfl (lv_at hl 1 rfl) ?_
  refine va_calli (va_runS (As := [.int p1]) (rest := []) ⟨hx, hb, hml, hown, hts⟩ (c_X0_isBook l p1) (va_cwS 1 hts gX0_lines_X0_isBook rfl rfl rfl hdX0_isBook ⟨Nat.le_of_ble_eq_true rfl, Nat.le_of_ble_eq_true rfl⟩) pPreS rfl rfl hl.1 rfl (lv_room (Nat.le_of_ble_eq_true rfl)) dX0_lines_1 ⟨Nat.zero_le _, Nat.zero_le _⟩) hS (fun q _ h => h.elim) (fun q h => h.elim) (fun r1 u1 t H1 locs ht hvm hw1 hB hz1 hk1 hS => ?_)
  have hP := P_kept hP hk1
  refine lv_if_ne (tgt := 10) hx hb dX0_lines_4 (by decide) (fun c2 => ?_) (fun c2 => ?_)
  · have hn3 := xe_book hw1 c2
    refine lv_aload_n hx hb dX0_lines_10 rfl (lv_at hl 0 rfl) ?_
    refine lv_iload_n hx hb dX0_lines_11 rfl (lv_at hl 1 rfl) ?_
    refine va_calli (va_runV (As := [.int p1]) (rest := []) ⟨hx, hb, hml, hown, hts⟩ (c_X0_endsAtBook l D a hO S p1 hn3) (cwV 1 hts gX0_lines_X0_endsAtBook rfl rfl rfl hdX0_endsAtBook ⟨Nat.le_of_ble_eq_true rfl, Nat.le_of_ble_eq_true rfl⟩) (xPreV hK hP) rfl rfl hl.1 rfl (lv_room (Nat.le_of_ble_eq_true rfl)) dX0_lines_12 ⟨Nat.zero_le _, Nat.zero_le _⟩) hS (fun q _ h => h) (fun q h => h) (fun r4 S4 t H1 locs ht hvm hw4 hB hz1 hk1 hS => ?_)
    obtain ⟨hP, -⟩ := hB
    rw [ht] at hP
    refine lv_if_eq (tgt := 23) hx hb dX0_lines_15 (by decide) (fun c6 => ?_) (fun c6 => ?_)
    · have hs7 := xe_endsAtBook hw4 c6
      subst hs7
      refine lv_aload_n hx hb dX0_lines_23 rfl (lv_at hl 0 rfl) ?_
      refine x_get hx hb hts hu hown hK hP 1 (by decide) hf9 rfl (v := .ref (xac a)) rfl dX0_lines_24 ?_
      refine lv_iload_n hx hb dX0_lines_27 rfl (lv_at hl 1 rfl) ?_
      refine x_ldc hx hb hK hP hn3 dX0_lines_28 ?_
      exact W.iret (v := (xc S p1)) hx hb hr (fun t ht hW => ⟨⟨(xc S p1), S, rfl, (by simp only [xF_lines, hw1, if_neg c2, hw4, if_pos c6]), by rw [ht]; exact hP, va_K.moved hW.alike hK⟩, hS.F ht⟩) hS.2.2 dX0_lines_29
    · refine lv_aload_n hx hb dX0_lines_18 rfl (lv_at hl 0 rfl) ?_
      refine x_get hx hb hts hu hown hK hP 9 (by decide) hf37 rfl (v := .int (xLf S4)) rfl dX0_lines_19 ?_
      exact W.iret (v := (xLf S4)) hx hb hr (fun t ht hW => ⟨⟨(xLf S4), S4, rfl, (by simp only [xF_lines, hw1, if_neg c2, hw4, if_neg c6]), by rw [ht]; exact hP, va_K.moved hW.alike hK⟩, hS.F ht⟩) hS.2.2 dX0_lines_22
  · refine lv_ldc (v := (-300000)) hx hb hown hk57 dX0_lines_7 ?_
    exact W.iret (v := (-300000)) hx hb hr (fun t ht hW => ⟨⟨(-300000), S, rfl, (by simp only [xF_lines, hw1, if_pos c2]), by rw [ht]; exact hP, va_K.moved hW.alike hK⟩, hS.F ht⟩) hS.2.2 dX0_lines_9
def xF_read (S : XS) (p1 p2 : Int32) : Int32 × XS := (if (xF_isBook p1) = 0 then ((-300000), S) else (let q4 := xF_endsAtLine S p1 p2; (if q4.1 = 0 then ((xh q4.2 p1 p2), q4.2) else ((xLf q4.2), q4.2))))
theorem hdX0_read : yX0_read.cls = RX0 ∧ yX0_read.cls ≠ "java/lang/invoke/MethodHandle" ∧ yX0_read.cls ≠ "java/lang/invoke/VarHandle" ∧ (parseMethodDescriptor yX0_read.desc).map (fun d => d.parameters.length) = some 2 := by decide +kernel
set_option maxHeartbeats 4000000 in
set_option maxRecDepth 100000 in
theorem c_X0_read (l : Launch) (D : va_G) (a : XA) (hO : xOk a) (S : XS) (p1 p2 : Int32) (hI : xI S) : Met l yX0_read wsX0_read ({ frames := 3, cells := 0, slots := 0, locals := 64 }) (va_Pc [.ref (xa a), .int p1, .int p2] (xB D a S)) (xQi D a (xF_read S p1 p2)) 0 0 (xA a) := by
  refine Met.ofW (cc := cX0_read) (maxL := 3) (ret := (some .int)) (by decide) rfl ?_
  intro p e s m args below meth c s₁ B hml hv
  obtain ⟨rfl, hP, hK⟩ := hv
  have hx := B.exec
  have hb := B.bytes
  have hr := B.returns
  have hts := atoms_spec (ws := wsX0_read) B.pre
  have hown : s.vm.findClass RX0 = some m.cls := findClass_of_methodNamed B.named
  have hlocks := B.notSynchronized
  have hS : va_S (xA a) s.heap s.heap [] := va_S.rf
  have hP : va_P D vwCl (xW a S) s.heap := hP
  have hu : ∀ w ∈ wsX00, w ∈ wsX0_read := fun _ h => List.mem_cons_of_mem _ (List.mem_append_right _ h)
  have hf15 := hts (.fieldLink RX0 15 "FlightBooks" "held" "[[I") (by decide +kernel)
  have hf37 := hts (.fieldLink RX0 37 "FlightBooks" "latestFault" "I") (by decide +kernel)
  have hk57 := hts (.constant RX0 57 (-300000)) (by decide +kernel)
  have hl := lv_entry ([.ref (xa a), .int p1, .int p2]) (n := 3) (Nat.le_of_ble_eq_true rfl)
  rw [lg_entry_eq]
  generalize (lg_sl ([.ref (xa a), .int p1, .int p2]) ++ List.replicate (3 - (lg_sl ([.ref (xa a), .int p1, .int p2])).length) Slot.unset).toArray = ls at hl ⊢
  have hl : lv_has ls 3 [(0, .ref (xa a)), (1, .int p1), (2, .int p2)] := hl
  refine lv_iload_n hx hb dX0_read_0 rfl (lv_at hl 1 rfl) ?_
  refine va_calli (va_runS (As := [.int p1]) (rest := []) ⟨hx, hb, hml, hown, hts⟩ (c_X0_isBook l p1) (va_cwS 1 hts gX0_read_X0_isBook rfl rfl rfl hdX0_isBook ⟨Nat.le_of_ble_eq_true rfl, Nat.le_of_ble_eq_true rfl⟩) pPreS rfl rfl hl.1 rfl (lv_room (Nat.le_of_ble_eq_true rfl)) dX0_read_1 ⟨Nat.zero_le _, Nat.zero_le _⟩) hS (fun q _ h => h.elim) (fun q h => h.elim) (fun r1 u1 t H1 locs ht hvm hw1 hB hz1 hk1 hS => ?_)
  have hP := P_kept hP hk1
  refine lv_if_ne (tgt := 10) hx hb dX0_read_4 (by decide) (fun c2 => ?_) (fun c2 => ?_)
  · have hn3 := xe_book hw1 c2
    refine lv_aload_n hx hb dX0_read_10 rfl (lv_at hl 0 rfl) ?_
    refine lv_iload_n hx hb dX0_read_11 rfl (lv_at hl 1 rfl) ?_
    refine lv_iload_n hx hb dX0_read_12 rfl (lv_at hl 2 rfl) ?_
    refine va_calli (va_runV (As := [.int p1, .int p2]) (rest := []) ⟨hx, hb, hml, hown, hts⟩ (c_X0_endsAtLine l D a hO S p1 p2 hI hn3) (cwV 2 hts gX0_read_X0_endsAtLine rfl rfl rfl hdX0_endsAtLine ⟨Nat.le_of_ble_eq_true rfl, Nat.le_of_ble_eq_true rfl⟩) (xPreV hK hP) rfl rfl hl.1 rfl (lv_room (Nat.le_of_ble_eq_true rfl)) dX0_read_13 ⟨Nat.zero_le _, Nat.zero_le _⟩) hS (fun q _ h => h) (fun q h => h) (fun r4 S4 t H1 locs ht hvm hw4 hB hz1 hk1 hS => ?_)
    obtain ⟨hP, -⟩ := hB
    rw [ht] at hP
    refine lv_if_eq (tgt := 24) hx hb dX0_read_16 (by decide) (fun c6 => ?_) (fun c6 => ?_)
    · obtain ⟨hn7, hs7⟩ := xe_endsAtLine hI hn3 hw4 c6
      subst hs7
      refine lv_aload_n hx hb dX0_read_24 rfl (lv_at hl 0 rfl) ?_
      refine x_get hx hb hts hu hown hK hP 2 (by decide) hf15 rfl (v := .ref (xah a)) rfl dX0_read_25 ?_
      refine lv_iload_n hx hb dX0_read_28 rfl (lv_at hl 1 rfl) ?_
      refine x_aldh hx hb hK hP hn3 dX0_read_29 ?_
      refine lv_iload_n hx hb dX0_read_30 rfl (lv_at hl 2 rfl) ?_
      refine x_ldh hx hb hK hP hn3 hn7 dX0_read_31 ?_
      exact W.iret (v := (xh S p1 p2)) hx hb hr (fun t ht hW => ⟨⟨(xh S p1 p2), S, rfl, (by simp only [xF_read, hw1, if_neg c2, hw4, if_pos c6]), by rw [ht]; exact hP, va_K.moved hW.alike hK⟩, hS.F ht⟩) hS.2.2 dX0_read_32
    · refine lv_aload_n hx hb dX0_read_19 rfl (lv_at hl 0 rfl) ?_
      refine x_get hx hb hts hu hown hK hP 9 (by decide) hf37 rfl (v := .int (xLf S4)) rfl dX0_read_20 ?_
      exact W.iret (v := (xLf S4)) hx hb hr (fun t ht hW => ⟨⟨(xLf S4), S4, rfl, (by simp only [xF_read, hw1, if_neg c2, hw4, if_neg c6]), by rw [ht]; exact hP, va_K.moved hW.alike hK⟩, hS.F ht⟩) hS.2.2 dX0_read_23
  · refine lv_ldc (v := (-300000)) hx hb hown hk57 dX0_read_7 ?_
    exact W.iret (v := (-300000)) hx hb hr (fun t ht hW => ⟨⟨(-300000), S, rfl, (by simp only [xF_read, hw1, if_pos c2]), by rw [ht]; exact hP, va_K.moved hW.alike hK⟩, hS.F ht⟩) hS.2.2 dX0_read_9
def xF_write (S : XS) (p1 p2 p3 : Int32) : Int32 × XS := (if (xF_isBook p1) = 0 then ((-300000), S) else (if p1 = 2 then (if (xF_isToldLoad p3) = 0 then ((-300000), S) else (let q16 := xF_endsAtLine S p1 p2; (if q16.1 = 0 then (let q20 := xF_put q16.2 p1 p2 p3; (0, q20)) else ((xLf q16.2), q16.2)))) else (let q6 := xF_endsAtLine S p1 p2; (if q6.1 = 0 then (let q10 := xF_put q6.2 p1 p2 p3; (0, q10)) else ((xLf q6.2), q6.2)))))
theorem hdX0_write : yX0_write.cls = RX0 ∧ yX0_write.cls ≠ "java/lang/invoke/MethodHandle" ∧ yX0_write.cls ≠ "java/lang/invoke/VarHandle" ∧ (parseMethodDescriptor yX0_write.desc).map (fun d => d.parameters.length) = some 3 := by decide +kernel
set_option maxHeartbeats 4000000 in
set_option maxRecDepth 100000 in
theorem c_X0_write (l : Launch) (D : va_G) (a : XA) (hO : xOk a) (S : XS) (p1 p2 p3 : Int32) (hI : xI S) : Met l yX0_write wsX0_write ({ frames := 4, cells := 0, slots := 0, locals := 86 }) (va_Pc [.ref (xa a), .int p1, .int p2, .int p3] (xB D a S)) (xQi D a (xF_write S p1 p2 p3)) 0 0 (xA a) := by
  refine Met.ofW (cc := cX0_write) (maxL := 4) (ret := (some .int)) (by decide) rfl ?_
  intro p e s m args below meth c s₁ B hml hv
  obtain ⟨rfl, hP, hK⟩ := hv
  have hx := B.exec
  have hb := B.bytes
  have hr := B.returns
  have hts := atoms_spec (ws := wsX0_write) B.pre
  have hown : s.vm.findClass RX0 = some m.cls := findClass_of_methodNamed B.named
  have hlocks := B.notSynchronized
  have hS : va_S (xA a) s.heap s.heap [] := va_S.rf
  have hP : va_P D vwCl (xW a S) s.heap := hP
  have hu : ∀ w ∈ wsX00, w ∈ wsX0_write := fun _ h => List.mem_cons_of_mem _ (List.mem_append_right _ h)
  have hk57 := hts (.constant RX0 57 (-300000)) (by decide +kernel)
  have hf37 := hts (.fieldLink RX0 37 "FlightBooks" "latestFault" "I") (by decide +kernel)
  have hl := lv_entry ([.ref (xa a), .int p1, .int p2, .int p3]) (n := 4) (Nat.le_of_ble_eq_true rfl)
  rw [lg_entry_eq]
  generalize (lg_sl ([.ref (xa a), .int p1, .int p2, .int p3]) ++ List.replicate (4 - (lg_sl ([.ref (xa a), .int p1, .int p2, .int p3])).length) Slot.unset).toArray = ls at hl ⊢
  have hl : lv_has ls 4 [(0, .ref (xa a)), (1, .int p1), (2, .int p2), (3, .int p3)] := hl
  refine lv_iload_n hx hb dX0_write_0 rfl (lv_at hl 1 rfl) ?_
  refine va_calli (va_runS (As := [.int p1]) (rest := []) ⟨hx, hb, hml, hown, hts⟩ (c_X0_isBook l p1) (va_cwS 1 hts gX0_write_X0_isBook rfl rfl rfl hdX0_isBook ⟨Nat.le_of_ble_eq_true rfl, Nat.le_of_ble_eq_true rfl⟩) pPreS rfl rfl hl.1 rfl (lv_room (Nat.le_of_ble_eq_true rfl)) dX0_write_1 ⟨Nat.zero_le _, Nat.zero_le _⟩) hS (fun q _ h => h.elim) (fun q h => h.elim) (fun r1 u1 t H1 locs ht hvm hw1 hB hz1 hk1 hS => ?_)
  have hP := P_kept hP hk1
  refine lv_if_eq (tgt := 19) hx hb dX0_write_4 (by decide) (fun c2 => ?_) (fun c2 => ?_)
  · refine lv_ldc (v := (-300000)) hx hb hown hk57 dX0_write_19 ?_
    exact W.iret (v := (-300000)) hx hb hr (fun t ht hW => ⟨⟨(-300000), S, rfl, (by simp only [xF_write, hw1, if_pos c2]), by rw [ht]; exact hP, va_K.moved hW.alike hK⟩, hS.F ht⟩) hS.2.2 dX0_write_21
  · have hn4 := xe_book hw1 c2
    refine lv_iload_n hx hb dX0_write_7 rfl (lv_at hl 1 rfl) ?_
    refine lv_iconst (v := 2) hx hb dX0_write_8 (by decide) ?_
    refine lv_icmp_ne (tgt := 22) hx hb dX0_write_9 (by decide) (fun c5 => ?_) (fun c5 => ?_)
    · refine lv_aload_n hx hb dX0_write_22 rfl (lv_at hl 0 rfl) ?_
      refine lv_iload_n hx hb dX0_write_23 rfl (lv_at hl 1 rfl) ?_
      refine lv_iload_n hx hb dX0_write_24 rfl (lv_at hl 2 rfl) ?_
      refine va_calli (va_runV (As := [.int p1, .int p2]) (rest := []) ⟨hx, hb, hml, hown, hts⟩ (c_X0_endsAtLine l D a hO S p1 p2 hI hn4) (cwV 2 hts gX0_write_X0_endsAtLine rfl rfl rfl hdX0_endsAtLine ⟨Nat.le_of_ble_eq_true rfl, Nat.le_of_ble_eq_true rfl⟩) (xPreV hK hP) rfl rfl hl.1 rfl (lv_room (Nat.le_of_ble_eq_true rfl)) dX0_write_25 ⟨Nat.zero_le _, Nat.zero_le _⟩) hS (fun q _ h => h) (fun q h => h) (fun r6 S6 t H1 locs ht hvm hw6 hB hz1 hk1 hS => ?_)
      obtain ⟨hP, -⟩ := hB
      rw [ht] at hP
      refine lv_if_eq (tgt := 36) hx hb dX0_write_28 (by decide) (fun c8 => ?_) (fun c8 => ?_)
      · obtain ⟨hn9, hs9⟩ := xe_endsAtLine hI hn4 hw6 c8
        subst hs9
        refine lv_aload_n hx hb dX0_write_36 rfl (lv_at hl 0 rfl) ?_
        refine lv_iload_n hx hb dX0_write_37 rfl (lv_at hl 1 rfl) ?_
        refine lv_iload_n hx hb dX0_write_38 rfl (lv_at hl 2 rfl) ?_
        refine lv_iload_n hx hb dX0_write_39 rfl (lv_at hl 3 rfl) ?_
        refine va_callv (va_runV (As := [.int p1, .int p2, .int p3]) (rest := []) ⟨hx, hb, hml, hown, hts⟩ (c_X0_put l D a hO S p1 p2 p3 hn4 hn9) (cwV 3 hts gX0_write_X0_put rfl rfl rfl hdX0_put ⟨Nat.le_of_ble_eq_true rfl, Nat.le_of_ble_eq_true rfl⟩) (xPreV hK hP) rfl rfl hl.1 rfl (lv_room (Nat.le_of_ble_eq_true rfl)) dX0_write_40 ⟨Nat.zero_le _, Nat.zero_le _⟩) hS (fun q _ h => h) (fun q h => h) (fun S10 t H1 locs ht hvm hw10 hB hz1 hk1 hS => ?_)
        obtain ⟨hP, -⟩ := hB
        rw [ht] at hP
        have hI := xI_put hI hw10
        refine lv_iconst (v := 0) hx hb dX0_write_43 (by decide) ?_
        exact W.iret (v := 0) hx hb hr (fun t ht hW => ⟨⟨0, S10, rfl, (by simp only [xF_write, hw1, if_neg c2, if_neg c5, hw6, if_pos c8, hw10]), by rw [ht]; exact hP, va_K.moved hW.alike hK⟩, hS.F ht⟩) hS.2.2 dX0_write_44
      · refine lv_aload_n hx hb dX0_write_31 rfl (lv_at hl 0 rfl) ?_
        refine x_get hx hb hts hu hown hK hP 9 (by decide) hf37 rfl (v := .int (xLf S6)) rfl dX0_write_32 ?_
        exact W.iret (v := (xLf S6)) hx hb hr (fun t ht hW => ⟨⟨(xLf S6), S6, rfl, (by simp only [xF_write, hw1, if_neg c2, if_neg c5, hw6, if_neg c8]), by rw [ht]; exact hP, va_K.moved hW.alike hK⟩, hS.F ht⟩) hS.2.2 dX0_write_35
    · refine lv_iload_n hx hb dX0_write_12 rfl (lv_at hl 3 rfl) ?_
      refine va_calli (va_runS (As := [.int p3]) (rest := []) ⟨hx, hb, hml, hown, hts⟩ (c_X0_isToldLoad l p3) (va_cwS 1 hts gX0_write_X0_isToldLoad rfl rfl rfl hdX0_isToldLoad ⟨Nat.le_of_ble_eq_true rfl, Nat.le_of_ble_eq_true rfl⟩) pPreS rfl rfl hl.1 rfl (lv_room (Nat.le_of_ble_eq_true rfl)) dX0_write_13 ⟨Nat.zero_le _, Nat.zero_le _⟩) hS (fun q _ h => h.elim) (fun q h => h.elim) (fun r13 u13 t H1 locs ht hvm hw13 hB hz1 hk1 hS => ?_)
      have hP := P_kept hP hk1
      refine lv_if_ne (tgt := 22) hx hb dX0_write_16 (by decide) (fun c14 => ?_) (fun c14 => ?_)
      · refine lv_aload_n hx hb dX0_write_22 rfl (lv_at hl 0 rfl) ?_
        refine lv_iload_n hx hb dX0_write_23 rfl (lv_at hl 1 rfl) ?_
        refine lv_iload_n hx hb dX0_write_24 rfl (lv_at hl 2 rfl) ?_
        refine va_calli (va_runV (As := [.int p1, .int p2]) (rest := []) ⟨hx, hb, hml, hown, hts⟩ (c_X0_endsAtLine l D a hO S p1 p2 hI hn4) (cwV 2 hts gX0_write_X0_endsAtLine rfl rfl rfl hdX0_endsAtLine ⟨Nat.le_of_ble_eq_true rfl, Nat.le_of_ble_eq_true rfl⟩) (xPreV hK hP) rfl rfl hl.1 rfl (lv_room (Nat.le_of_ble_eq_true rfl)) dX0_write_25 ⟨Nat.zero_le _, Nat.zero_le _⟩) hS (fun q _ h => h) (fun q h => h) (fun r16 S16 t H1 locs ht hvm hw16 hB hz1 hk1 hS => ?_)
        obtain ⟨hP, -⟩ := hB
        rw [ht] at hP
        refine lv_if_eq (tgt := 36) hx hb dX0_write_28 (by decide) (fun c18 => ?_) (fun c18 => ?_)
        · obtain ⟨hn19, hs19⟩ := xe_endsAtLine hI hn4 hw16 c18
          subst hs19
          refine lv_aload_n hx hb dX0_write_36 rfl (lv_at hl 0 rfl) ?_
          refine lv_iload_n hx hb dX0_write_37 rfl (lv_at hl 1 rfl) ?_
          refine lv_iload_n hx hb dX0_write_38 rfl (lv_at hl 2 rfl) ?_
          refine lv_iload_n hx hb dX0_write_39 rfl (lv_at hl 3 rfl) ?_
          refine va_callv (va_runV (As := [.int p1, .int p2, .int p3]) (rest := []) ⟨hx, hb, hml, hown, hts⟩ (c_X0_put l D a hO S p1 p2 p3 hn4 hn19) (cwV 3 hts gX0_write_X0_put rfl rfl rfl hdX0_put ⟨Nat.le_of_ble_eq_true rfl, Nat.le_of_ble_eq_true rfl⟩) (xPreV hK hP) rfl rfl hl.1 rfl (lv_room (Nat.le_of_ble_eq_true rfl)) dX0_write_40 ⟨Nat.zero_le _, Nat.zero_le _⟩) hS (fun q _ h => h) (fun q h => h) (fun S20 t H1 locs ht hvm hw20 hB hz1 hk1 hS => ?_)
          obtain ⟨hP, -⟩ := hB
          rw [ht] at hP
          have hI := xI_put hI hw20
          refine lv_iconst (v := 0) hx hb dX0_write_43 (by decide) ?_
          exact W.iret (v := 0) hx hb hr (fun t ht hW => ⟨⟨0, S20, rfl, (by simp only [xF_write, hw1, if_neg c2, if_pos c5, hw13, if_neg c14, hw16, if_pos c18, hw20]), by rw [ht]; exact hP, va_K.moved hW.alike hK⟩, hS.F ht⟩) hS.2.2 dX0_write_44
        · refine lv_aload_n hx hb dX0_write_31 rfl (lv_at hl 0 rfl) ?_
          refine x_get hx hb hts hu hown hK hP 9 (by decide) hf37 rfl (v := .int (xLf S16)) rfl dX0_write_32 ?_
          exact W.iret (v := (xLf S16)) hx hb hr (fun t ht hW => ⟨⟨(xLf S16), S16, rfl, (by simp only [xF_write, hw1, if_neg c2, if_pos c5, hw13, if_neg c14, hw16, if_neg c18]), by rw [ht]; exact hP, va_K.moved hW.alike hK⟩, hS.F ht⟩) hS.2.2 dX0_write_35
      · refine lv_ldc (v := (-300000)) hx hb hown hk57 dX0_write_19 ?_
        exact W.iret (v := (-300000)) hx hb hr (fun t ht hW => ⟨⟨(-300000), S, rfl, (by simp only [xF_write, hw1, if_neg c2, if_pos c5, hw13, if_pos c14]), by rw [ht]; exact hP, va_K.moved hW.alike hK⟩, hS.F ht⟩) hS.2.2 dX0_write_21
def xF_change (S : XS) (p1 p2 p3 p4 : Int32) : Int32 × XS := (if (xF_isBook p1) = 0 then ((-300000), S) else (if p3 < 0 then ((-300000), S) else (if p3 ≤ 3 then (if p1 = 2 then (if p3 = 0 then (if (xF_isToldLoad p4) = 0 then ((-300000), S) else (let q20 := xF_endsAtLine S p1 p2; (if q20.1 = 0 then (let q25 := xF_put q20.2 p1 p2 (xF_changed p1 (xh q20.2 p1 p2) p3 p4); ((xh q25 p1 p2), q25)) else ((xLf q20.2), q20.2)))) else (if p3 = 1 then (if (xF_isToldLoad p4) = 0 then ((-300000), S) else (let q41 := xF_endsAtLine S p1 p2; (if q41.1 = 0 then (let q46 := xF_put q41.2 p1 p2 (xF_changed p1 (xh q41.2 p1 p2) p3 p4); ((xh q46 p1 p2), q46)) else ((xLf q41.2), q41.2)))) else (let q30 := xF_endsAtLine S p1 p2; (if q30.1 = 0 then (let q35 := xF_put q30.2 p1 p2 (xF_changed p1 (xh q30.2 p1 p2) p3 p4); ((xh q35 p1 p2), q35)) else ((xLf q30.2), q30.2))))) else (let q8 := xF_endsAtLine S p1 p2; (if q8.1 = 0 then (let q13 := xF_put q8.2 p1 p2 (xF_changed p1 (xh q8.2 p1 p2) p3 p4); ((xh q13 p1 p2), q13)) else ((xLf q8.2), q8.2)))) else ((-300000), S))))
theorem hdX0_change : yX0_change.cls = RX0 ∧ yX0_change.cls ≠ "java/lang/invoke/MethodHandle" ∧ yX0_change.cls ≠ "java/lang/invoke/VarHandle" ∧ (parseMethodDescriptor yX0_change.desc).map (fun d => d.parameters.length) = some 4 := by decide +kernel
set_option maxHeartbeats 4000000 in
set_option maxRecDepth 100000 in
theorem c_X0_change (l : Launch) (D : va_G) (a : XA) (hO : xOk a) (S : XS) (p1 p2 p3 p4 : Int32) (hI : xI S) : Met l yX0_change wsX0_change ({ frames := 4, cells := 0, slots := 0, locals := 86 }) (va_Pc [.ref (xa a), .int p1, .int p2, .int p3, .int p4] (xB D a S)) (xQi D a (xF_change S p1 p2 p3 p4)) 0 0 (xA a) := by
  refine Met.ofW (cc := cX0_change) (maxL := 5) (ret := (some .int)) (by decide) rfl ?_
  intro p e s m args below meth c s₁ B hml hv
  obtain ⟨rfl, hP, hK⟩ := hv
  have hx := B.exec
  have hb := B.bytes
  have hr := B.returns
  have hts := atoms_spec (ws := wsX0_change) B.pre
  have hown : s.vm.findClass RX0 = some m.cls := findClass_of_methodNamed B.named
  have hlocks := B.notSynchronized
  have hS : va_S (xA a) s.heap s.heap [] := va_S.rf
  have hP : va_P D vwCl (xW a S) s.heap := hP
  have hu : ∀ w ∈ wsX00, w ∈ wsX0_change := fun _ h => List.mem_cons_of_mem _ (List.mem_append_right _ h)
  have hk57 := hts (.constant RX0 57 (-300000)) (by decide +kernel)
  have hf15 := hts (.fieldLink RX0 15 "FlightBooks" "held" "[[I") (by decide +kernel)
  have hf37 := hts (.fieldLink RX0 37 "FlightBooks" "latestFault" "I") (by decide +kernel)
  have hl := lv_entry ([.ref (xa a), .int p1, .int p2, .int p3, .int p4]) (n := 5) (Nat.le_of_ble_eq_true rfl)
  rw [lg_entry_eq]
  generalize (lg_sl ([.ref (xa a), .int p1, .int p2, .int p3, .int p4]) ++ List.replicate (5 - (lg_sl ([.ref (xa a), .int p1, .int p2, .int p3, .int p4])).length) Slot.unset).toArray = ls at hl ⊢
  have hl : lv_has ls 5 [(0, .ref (xa a)), (1, .int p1), (2, .int p2), (3, .int p3), (4, .int p4)] := hl
  refine lv_iload_n hx hb dX0_change_0 rfl (lv_at hl 1 rfl) ?_
  refine va_calli (va_runS (As := [.int p1]) (rest := []) ⟨hx, hb, hml, hown, hts⟩ (c_X0_isBook l p1) (va_cwS 1 hts gX0_change_X0_isBook rfl rfl rfl hdX0_isBook ⟨Nat.le_of_ble_eq_true rfl, Nat.le_of_ble_eq_true rfl⟩) pPreS rfl rfl hl.1 rfl (lv_room (Nat.le_of_ble_eq_true rfl)) dX0_change_1 ⟨Nat.zero_le _, Nat.zero_le _⟩) hS (fun q _ h => h.elim) (fun q h => h.elim) (fun r1 u1 t H1 locs ht hvm hw1 hB hz1 hk1 hS => ?_)
  have hP := P_kept hP hk1
  refine lv_if_eq (tgt := 16) hx hb dX0_change_4 (by decide) (fun c2 => ?_) (fun c2 => ?_)
  · refine lv_ldc (v := (-300000)) hx hb hown hk57 dX0_change_16 ?_
    exact W.iret (v := (-300000)) hx hb hr (fun t ht hW => ⟨⟨(-300000), S, rfl, (by simp only [xF_change, hw1, if_pos c2]), by rw [ht]; exact hP, va_K.moved hW.alike hK⟩, hS.F ht⟩) hS.2.2 dX0_change_18
  · have hn4 := xe_book hw1 c2
    refine lv_iload_n hx hb dX0_change_7 rfl (lv_at hl 3 rfl) ?_
    refine lv_if_lt (tgt := 16) hx hb dX0_change_8 (by decide) (fun c5 => ?_) (fun c5 => ?_)
    · refine lv_ldc (v := (-300000)) hx hb hown hk57 dX0_change_16 ?_
      exact W.iret (v := (-300000)) hx hb hr (fun t ht hW => ⟨⟨(-300000), S, rfl, (by simp only [xF_change, hw1, if_neg c2, if_pos c5]), by rw [ht]; exact hP, va_K.moved hW.alike hK⟩, hS.F ht⟩) hS.2.2 dX0_change_18
    · refine lv_iload_n hx hb dX0_change_11 rfl (lv_at hl 3 rfl) ?_
      refine lv_iconst (v := 3) hx hb dX0_change_12 (by decide) ?_
      refine lv_icmp_le (tgt := 19) hx hb dX0_change_13 (by decide) (fun c6 => ?_) (fun c6 => ?_)
      · refine lv_iload_n hx hb dX0_change_19 rfl (lv_at hl 1 rfl) ?_
        refine lv_iconst (v := 2) hx hb dX0_change_20 (by decide) ?_
        refine lv_icmp_ne (tgt := 44) hx hb dX0_change_21 (by decide) (fun c7 => ?_) (fun c7 => ?_)
        · refine lv_aload_n hx hb dX0_change_44 rfl (lv_at hl 0 rfl) ?_
          refine lv_iload_n hx hb dX0_change_45 rfl (lv_at hl 1 rfl) ?_
          refine lv_iload_n hx hb dX0_change_46 rfl (lv_at hl 2 rfl) ?_
          refine va_calli (va_runV (As := [.int p1, .int p2]) (rest := []) ⟨hx, hb, hml, hown, hts⟩ (c_X0_endsAtLine l D a hO S p1 p2 hI hn4) (cwV 2 hts gX0_change_X0_endsAtLine rfl rfl rfl hdX0_endsAtLine ⟨Nat.le_of_ble_eq_true rfl, Nat.le_of_ble_eq_true rfl⟩) (xPreV hK hP) rfl rfl hl.1 rfl (lv_room (Nat.le_of_ble_eq_true rfl)) dX0_change_47 ⟨Nat.zero_le _, Nat.zero_le _⟩) hS (fun q _ h => h) (fun q h => h) (fun r8 S8 t H1 locs ht hvm hw8 hB hz1 hk1 hS => ?_)
          obtain ⟨hP, -⟩ := hB
          rw [ht] at hP
          refine lv_if_eq (tgt := 58) hx hb dX0_change_50 (by decide) (fun c10 => ?_) (fun c10 => ?_)
          · obtain ⟨hn11, hs11⟩ := xe_endsAtLine hI hn4 hw8 c10
            subst hs11
            refine lv_aload_n hx hb dX0_change_58 rfl (lv_at hl 0 rfl) ?_
            refine lv_iload_n hx hb dX0_change_59 rfl (lv_at hl 1 rfl) ?_
            refine lv_iload_n hx hb dX0_change_60 rfl (lv_at hl 2 rfl) ?_
            refine lv_iload_n hx hb dX0_change_61 rfl (lv_at hl 1 rfl) ?_
            refine lv_aload_n hx hb dX0_change_62 rfl (lv_at hl 0 rfl) ?_
            refine x_get hx hb hts hu hown hK hP 2 (by decide) hf15 rfl (v := .ref (xah a)) rfl dX0_change_63 ?_
            refine lv_iload_n hx hb dX0_change_66 rfl (lv_at hl 1 rfl) ?_
            refine x_aldh hx hb hK hP hn4 dX0_change_67 ?_
            refine lv_iload_n hx hb dX0_change_68 rfl (lv_at hl 2 rfl) ?_
            refine x_ldh hx hb hK hP hn4 hn11 dX0_change_69 ?_
            refine lv_iload_n hx hb dX0_change_70 rfl (lv_at hl 3 rfl) ?_
            refine lv_iload hx hb dX0_change_71 (lv_at hl 4 rfl) ?_
            refine va_calli (va_runS (As := [.int p1, .int (xh S p1 p2), .int p3, .int p4]) (rest := [.int p2, .int p1, .ref (xa a)]) ⟨hx, hb, hml, hown, hts⟩ (c_X0_changed l p1 (xh S p1 p2) p3 p4) (va_cwS 4 hts gX0_change_X0_changed rfl rfl rfl hdX0_changed ⟨Nat.le_of_ble_eq_true rfl, Nat.le_of_ble_eq_true rfl⟩) pPreS rfl rfl hl.1 rfl (lv_room (Nat.le_of_ble_eq_true rfl)) dX0_change_73 ⟨Nat.zero_le _, Nat.zero_le _⟩) hS (fun q _ h => h.elim) (fun q h => h.elim) (fun r12 u12 t H1 locs ht hvm hw12 hB hz1 hk1 hS => ?_)
            have hP := P_kept hP hk1
            refine va_callv (va_runV (As := [.int p1, .int p2, .int r12]) (rest := []) ⟨hx, hb, hml, hown, hts⟩ (c_X0_put l D a hO S p1 p2 r12 hn4 hn11) (cwV 3 hts gX0_change_X0_put rfl rfl rfl hdX0_put ⟨Nat.le_of_ble_eq_true rfl, Nat.le_of_ble_eq_true rfl⟩) (xPreV hK hP) rfl rfl hl.1 rfl (lv_room (Nat.le_of_ble_eq_true rfl)) dX0_change_76 ⟨Nat.zero_le _, Nat.zero_le _⟩) hS (fun q _ h => h) (fun q h => h) (fun S13 t H1 locs ht hvm hw13 hB hz1 hk1 hS => ?_)
            obtain ⟨hP, -⟩ := hB
            rw [ht] at hP
            have hI := xI_put hI hw13
            refine lv_aload_n hx hb dX0_change_79 rfl (lv_at hl 0 rfl) ?_
            refine x_get hx hb hts hu hown hK hP 2 (by decide) hf15 rfl (v := .ref (xah a)) rfl dX0_change_80 ?_
            refine lv_iload_n hx hb dX0_change_83 rfl (lv_at hl 1 rfl) ?_
            refine x_aldh hx hb hK hP hn4 dX0_change_84 ?_
            refine lv_iload_n hx hb dX0_change_85 rfl (lv_at hl 2 rfl) ?_
            refine x_ldh hx hb hK hP hn4 hn11 dX0_change_86 ?_
            exact W.iret (v := (xh S13 p1 p2)) hx hb hr (fun t ht hW => ⟨⟨(xh S13 p1 p2), S13, rfl, (by simp only [xF_change, hw1, if_neg c2, if_neg c5, if_pos c6, if_neg c7, hw8, if_pos c10, hw12, hw13]), by rw [ht]; exact hP, va_K.moved hW.alike hK⟩, hS.F ht⟩) hS.2.2 dX0_change_87
          · refine lv_aload_n hx hb dX0_change_53 rfl (lv_at hl 0 rfl) ?_
            refine x_get hx hb hts hu hown hK hP 9 (by decide) hf37 rfl (v := .int (xLf S8)) rfl dX0_change_54 ?_
            exact W.iret (v := (xLf S8)) hx hb hr (fun t ht hW => ⟨⟨(xLf S8), S8, rfl, (by simp only [xF_change, hw1, if_neg c2, if_neg c5, if_pos c6, if_neg c7, hw8, if_neg c10]), by rw [ht]; exact hP, va_K.moved hW.alike hK⟩, hS.F ht⟩) hS.2.2 dX0_change_57
        · refine lv_iload_n hx hb dX0_change_24 rfl (lv_at hl 3 rfl) ?_
          refine lv_if_eq (tgt := 33) hx hb dX0_change_25 (by decide) (fun c16 => ?_) (fun c16 => ?_)
          · refine lv_iload hx hb dX0_change_33 (lv_at hl 4 rfl) ?_
            refine va_calli (va_runS (As := [.int p4]) (rest := []) ⟨hx, hb, hml, hown, hts⟩ (c_X0_isToldLoad l p4) (va_cwS 1 hts gX0_change_X0_isToldLoad rfl rfl rfl hdX0_isToldLoad ⟨Nat.le_of_ble_eq_true rfl, Nat.le_of_ble_eq_true rfl⟩) pPreS rfl rfl hl.1 rfl (lv_room (Nat.le_of_ble_eq_true rfl)) dX0_change_35 ⟨Nat.zero_le _, Nat.zero_le _⟩) hS (fun q _ h => h.elim) (fun q h => h.elim) (fun r17 u17 t H1 locs ht hvm hw17 hB hz1 hk1 hS => ?_)
            have hP := P_kept hP hk1
            refine lv_if_ne (tgt := 44) hx hb dX0_change_38 (by decide) (fun c18 => ?_) (fun c18 => ?_)
            · refine lv_aload_n hx hb dX0_change_44 rfl (lv_at hl 0 rfl) ?_
              refine lv_iload_n hx hb dX0_change_45 rfl (lv_at hl 1 rfl) ?_
              refine lv_iload_n hx hb dX0_change_46 rfl (lv_at hl 2 rfl) ?_
              refine va_calli (va_runV (As := [.int p1, .int p2]) (rest := []) ⟨hx, hb, hml, hown, hts⟩ (c_X0_endsAtLine l D a hO S p1 p2 hI hn4) (cwV 2 hts gX0_change_X0_endsAtLine rfl rfl rfl hdX0_endsAtLine ⟨Nat.le_of_ble_eq_true rfl, Nat.le_of_ble_eq_true rfl⟩) (xPreV hK hP) rfl rfl hl.1 rfl (lv_room (Nat.le_of_ble_eq_true rfl)) dX0_change_47 ⟨Nat.zero_le _, Nat.zero_le _⟩) hS (fun q _ h => h) (fun q h => h) (fun r20 S20 t H1 locs ht hvm hw20 hB hz1 hk1 hS => ?_)
              obtain ⟨hP, -⟩ := hB
              rw [ht] at hP
              refine lv_if_eq (tgt := 58) hx hb dX0_change_50 (by decide) (fun c22 => ?_) (fun c22 => ?_)
              · obtain ⟨hn23, hs23⟩ := xe_endsAtLine hI hn4 hw20 c22
                subst hs23
                refine lv_aload_n hx hb dX0_change_58 rfl (lv_at hl 0 rfl) ?_
                refine lv_iload_n hx hb dX0_change_59 rfl (lv_at hl 1 rfl) ?_
                refine lv_iload_n hx hb dX0_change_60 rfl (lv_at hl 2 rfl) ?_
                refine lv_iload_n hx hb dX0_change_61 rfl (lv_at hl 1 rfl) ?_
                refine lv_aload_n hx hb dX0_change_62 rfl (lv_at hl 0 rfl) ?_
                refine x_get hx hb hts hu hown hK hP 2 (by decide) hf15 rfl (v := .ref (xah a)) rfl dX0_change_63 ?_
                refine lv_iload_n hx hb dX0_change_66 rfl (lv_at hl 1 rfl) ?_
                refine x_aldh hx hb hK hP hn4 dX0_change_67 ?_
                refine lv_iload_n hx hb dX0_change_68 rfl (lv_at hl 2 rfl) ?_
                refine x_ldh hx hb hK hP hn4 hn23 dX0_change_69 ?_
                refine lv_iload_n hx hb dX0_change_70 rfl (lv_at hl 3 rfl) ?_
                refine lv_iload hx hb dX0_change_71 (lv_at hl 4 rfl) ?_
                refine va_calli (va_runS (As := [.int p1, .int (xh S p1 p2), .int p3, .int p4]) (rest := [.int p2, .int p1, .ref (xa a)]) ⟨hx, hb, hml, hown, hts⟩ (c_X0_changed l p1 (xh S p1 p2) p3 p4) (va_cwS 4 hts gX0_change_X0_changed rfl rfl rfl hdX0_changed ⟨Nat.le_of_ble_eq_true rfl, Nat.le_of_ble_eq_true rfl⟩) pPreS rfl rfl hl.1 rfl (lv_room (Nat.le_of_ble_eq_true rfl)) dX0_change_73 ⟨Nat.zero_le _, Nat.zero_le _⟩) hS (fun q _ h => h.elim) (fun q h => h.elim) (fun r24 u24 t H1 locs ht hvm hw24 hB hz1 hk1 hS => ?_)
                have hP := P_kept hP hk1
                refine va_callv (va_runV (As := [.int p1, .int p2, .int r24]) (rest := []) ⟨hx, hb, hml, hown, hts⟩ (c_X0_put l D a hO S p1 p2 r24 hn4 hn23) (cwV 3 hts gX0_change_X0_put rfl rfl rfl hdX0_put ⟨Nat.le_of_ble_eq_true rfl, Nat.le_of_ble_eq_true rfl⟩) (xPreV hK hP) rfl rfl hl.1 rfl (lv_room (Nat.le_of_ble_eq_true rfl)) dX0_change_76 ⟨Nat.zero_le _, Nat.zero_le _⟩) hS (fun q _ h => h) (fun q h => h) (fun S25 t H1 locs ht hvm hw25 hB hz1 hk1 hS => ?_)
                obtain ⟨hP, -⟩ := hB
                rw [ht] at hP
                have hI := xI_put hI hw25
                refine lv_aload_n hx hb dX0_change_79 rfl (lv_at hl 0 rfl) ?_
                refine x_get hx hb hts hu hown hK hP 2 (by decide) hf15 rfl (v := .ref (xah a)) rfl dX0_change_80 ?_
                refine lv_iload_n hx hb dX0_change_83 rfl (lv_at hl 1 rfl) ?_
                refine x_aldh hx hb hK hP hn4 dX0_change_84 ?_
                refine lv_iload_n hx hb dX0_change_85 rfl (lv_at hl 2 rfl) ?_
                refine x_ldh hx hb hK hP hn4 hn23 dX0_change_86 ?_
                exact W.iret (v := (xh S25 p1 p2)) hx hb hr (fun t ht hW => ⟨⟨(xh S25 p1 p2), S25, rfl, (by simp only [xF_change, hw1, if_neg c2, if_neg c5, if_pos c6, if_pos c7, if_pos c16, hw17, if_neg c18, hw20, if_pos c22, hw24, hw25]), by rw [ht]; exact hP, va_K.moved hW.alike hK⟩, hS.F ht⟩) hS.2.2 dX0_change_87
              · refine lv_aload_n hx hb dX0_change_53 rfl (lv_at hl 0 rfl) ?_
                refine x_get hx hb hts hu hown hK hP 9 (by decide) hf37 rfl (v := .int (xLf S20)) rfl dX0_change_54 ?_
                exact W.iret (v := (xLf S20)) hx hb hr (fun t ht hW => ⟨⟨(xLf S20), S20, rfl, (by simp only [xF_change, hw1, if_neg c2, if_neg c5, if_pos c6, if_pos c7, if_pos c16, hw17, if_neg c18, hw20, if_neg c22]), by rw [ht]; exact hP, va_K.moved hW.alike hK⟩, hS.F ht⟩) hS.2.2 dX0_change_57
            · refine lv_ldc (v := (-300000)) hx hb hown hk57 dX0_change_41 ?_
              exact W.iret (v := (-300000)) hx hb hr (fun t ht hW => ⟨⟨(-300000), S, rfl, (by simp only [xF_change, hw1, if_neg c2, if_neg c5, if_pos c6, if_pos c7, if_pos c16, hw17, if_pos c18]), by rw [ht]; exact hP, va_K.moved hW.alike hK⟩, hS.F ht⟩) hS.2.2 dX0_change_43
          · refine lv_iload_n hx hb dX0_change_28 rfl (lv_at hl 3 rfl) ?_
            refine lv_iconst (v := 1) hx hb dX0_change_29 (by decide) ?_
            refine lv_icmp_ne (tgt := 44) hx hb dX0_change_30 (by decide) (fun c29 => ?_) (fun c29 => ?_)
            · refine lv_aload_n hx hb dX0_change_44 rfl (lv_at hl 0 rfl) ?_
              refine lv_iload_n hx hb dX0_change_45 rfl (lv_at hl 1 rfl) ?_
              refine lv_iload_n hx hb dX0_change_46 rfl (lv_at hl 2 rfl) ?_
              refine va_calli (va_runV (As := [.int p1, .int p2]) (rest := []) ⟨hx, hb, hml, hown, hts⟩ (c_X0_endsAtLine l D a hO S p1 p2 hI hn4) (cwV 2 hts gX0_change_X0_endsAtLine rfl rfl rfl hdX0_endsAtLine ⟨Nat.le_of_ble_eq_true rfl, Nat.le_of_ble_eq_true rfl⟩) (xPreV hK hP) rfl rfl hl.1 rfl (lv_room (Nat.le_of_ble_eq_true rfl)) dX0_change_47 ⟨Nat.zero_le _, Nat.zero_le _⟩) hS (fun q _ h => h) (fun q h => h) (fun r30 S30 t H1 locs ht hvm hw30 hB hz1 hk1 hS => ?_)
              obtain ⟨hP, -⟩ := hB
              rw [ht] at hP
              refine lv_if_eq (tgt := 58) hx hb dX0_change_50 (by decide) (fun c32 => ?_) (fun c32 => ?_)
              · obtain ⟨hn33, hs33⟩ := xe_endsAtLine hI hn4 hw30 c32
                subst hs33
                refine lv_aload_n hx hb dX0_change_58 rfl (lv_at hl 0 rfl) ?_
                refine lv_iload_n hx hb dX0_change_59 rfl (lv_at hl 1 rfl) ?_
                refine lv_iload_n hx hb dX0_change_60 rfl (lv_at hl 2 rfl) ?_
                refine lv_iload_n hx hb dX0_change_61 rfl (lv_at hl 1 rfl) ?_
                refine lv_aload_n hx hb dX0_change_62 rfl (lv_at hl 0 rfl) ?_
                refine x_get hx hb hts hu hown hK hP 2 (by decide) hf15 rfl (v := .ref (xah a)) rfl dX0_change_63 ?_
                refine lv_iload_n hx hb dX0_change_66 rfl (lv_at hl 1 rfl) ?_
                refine x_aldh hx hb hK hP hn4 dX0_change_67 ?_
                refine lv_iload_n hx hb dX0_change_68 rfl (lv_at hl 2 rfl) ?_
                refine x_ldh hx hb hK hP hn4 hn33 dX0_change_69 ?_
                refine lv_iload_n hx hb dX0_change_70 rfl (lv_at hl 3 rfl) ?_
                refine lv_iload hx hb dX0_change_71 (lv_at hl 4 rfl) ?_
                refine va_calli (va_runS (As := [.int p1, .int (xh S p1 p2), .int p3, .int p4]) (rest := [.int p2, .int p1, .ref (xa a)]) ⟨hx, hb, hml, hown, hts⟩ (c_X0_changed l p1 (xh S p1 p2) p3 p4) (va_cwS 4 hts gX0_change_X0_changed rfl rfl rfl hdX0_changed ⟨Nat.le_of_ble_eq_true rfl, Nat.le_of_ble_eq_true rfl⟩) pPreS rfl rfl hl.1 rfl (lv_room (Nat.le_of_ble_eq_true rfl)) dX0_change_73 ⟨Nat.zero_le _, Nat.zero_le _⟩) hS (fun q _ h => h.elim) (fun q h => h.elim) (fun r34 u34 t H1 locs ht hvm hw34 hB hz1 hk1 hS => ?_)
                have hP := P_kept hP hk1
                refine va_callv (va_runV (As := [.int p1, .int p2, .int r34]) (rest := []) ⟨hx, hb, hml, hown, hts⟩ (c_X0_put l D a hO S p1 p2 r34 hn4 hn33) (cwV 3 hts gX0_change_X0_put rfl rfl rfl hdX0_put ⟨Nat.le_of_ble_eq_true rfl, Nat.le_of_ble_eq_true rfl⟩) (xPreV hK hP) rfl rfl hl.1 rfl (lv_room (Nat.le_of_ble_eq_true rfl)) dX0_change_76 ⟨Nat.zero_le _, Nat.zero_le _⟩) hS (fun q _ h => h) (fun q h => h) (fun S35 t H1 locs ht hvm hw35 hB hz1 hk1 hS => ?_)
                obtain ⟨hP, -⟩ := hB
                rw [ht] at hP
                have hI := xI_put hI hw35
                refine lv_aload_n hx hb dX0_change_79 rfl (lv_at hl 0 rfl) ?_
                refine x_get hx hb hts hu hown hK hP 2 (by decide) hf15 rfl (v := .ref (xah a)) rfl dX0_change_80 ?_
                refine lv_iload_n hx hb dX0_change_83 rfl (lv_at hl 1 rfl) ?_
                refine x_aldh hx hb hK hP hn4 dX0_change_84 ?_
                refine lv_iload_n hx hb dX0_change_85 rfl (lv_at hl 2 rfl) ?_
                refine x_ldh hx hb hK hP hn4 hn33 dX0_change_86 ?_
                exact W.iret (v := (xh S35 p1 p2)) hx hb hr (fun t ht hW => ⟨⟨(xh S35 p1 p2), S35, rfl, (by simp only [xF_change, hw1, if_neg c2, if_neg c5, if_pos c6, if_pos c7, if_neg c16, if_neg c29, hw30, if_pos c32, hw34, hw35]), by rw [ht]; exact hP, va_K.moved hW.alike hK⟩, hS.F ht⟩) hS.2.2 dX0_change_87
              · refine lv_aload_n hx hb dX0_change_53 rfl (lv_at hl 0 rfl) ?_
                refine x_get hx hb hts hu hown hK hP 9 (by decide) hf37 rfl (v := .int (xLf S30)) rfl dX0_change_54 ?_
                exact W.iret (v := (xLf S30)) hx hb hr (fun t ht hW => ⟨⟨(xLf S30), S30, rfl, (by simp only [xF_change, hw1, if_neg c2, if_neg c5, if_pos c6, if_pos c7, if_neg c16, if_neg c29, hw30, if_neg c32]), by rw [ht]; exact hP, va_K.moved hW.alike hK⟩, hS.F ht⟩) hS.2.2 dX0_change_57
            · refine lv_iload hx hb dX0_change_33 (lv_at hl 4 rfl) ?_
              refine va_calli (va_runS (As := [.int p4]) (rest := []) ⟨hx, hb, hml, hown, hts⟩ (c_X0_isToldLoad l p4) (va_cwS 1 hts gX0_change_X0_isToldLoad rfl rfl rfl hdX0_isToldLoad ⟨Nat.le_of_ble_eq_true rfl, Nat.le_of_ble_eq_true rfl⟩) pPreS rfl rfl hl.1 rfl (lv_room (Nat.le_of_ble_eq_true rfl)) dX0_change_35 ⟨Nat.zero_le _, Nat.zero_le _⟩) hS (fun q _ h => h.elim) (fun q h => h.elim) (fun r38 u38 t H1 locs ht hvm hw38 hB hz1 hk1 hS => ?_)
              have hP := P_kept hP hk1
              refine lv_if_ne (tgt := 44) hx hb dX0_change_38 (by decide) (fun c39 => ?_) (fun c39 => ?_)
              · refine lv_aload_n hx hb dX0_change_44 rfl (lv_at hl 0 rfl) ?_
                refine lv_iload_n hx hb dX0_change_45 rfl (lv_at hl 1 rfl) ?_
                refine lv_iload_n hx hb dX0_change_46 rfl (lv_at hl 2 rfl) ?_
                refine va_calli (va_runV (As := [.int p1, .int p2]) (rest := []) ⟨hx, hb, hml, hown, hts⟩ (c_X0_endsAtLine l D a hO S p1 p2 hI hn4) (cwV 2 hts gX0_change_X0_endsAtLine rfl rfl rfl hdX0_endsAtLine ⟨Nat.le_of_ble_eq_true rfl, Nat.le_of_ble_eq_true rfl⟩) (xPreV hK hP) rfl rfl hl.1 rfl (lv_room (Nat.le_of_ble_eq_true rfl)) dX0_change_47 ⟨Nat.zero_le _, Nat.zero_le _⟩) hS (fun q _ h => h) (fun q h => h) (fun r41 S41 t H1 locs ht hvm hw41 hB hz1 hk1 hS => ?_)
                obtain ⟨hP, -⟩ := hB
                rw [ht] at hP
                refine lv_if_eq (tgt := 58) hx hb dX0_change_50 (by decide) (fun c43 => ?_) (fun c43 => ?_)
                · obtain ⟨hn44, hs44⟩ := xe_endsAtLine hI hn4 hw41 c43
                  subst hs44
                  refine lv_aload_n hx hb dX0_change_58 rfl (lv_at hl 0 rfl) ?_
                  refine lv_iload_n hx hb dX0_change_59 rfl (lv_at hl 1 rfl) ?_
                  refine lv_iload_n hx hb dX0_change_60 rfl (lv_at hl 2 rfl) ?_
                  refine lv_iload_n hx hb dX0_change_61 rfl (lv_at hl 1 rfl) ?_
                  refine lv_aload_n hx hb dX0_change_62 rfl (lv_at hl 0 rfl) ?_
                  refine x_get hx hb hts hu hown hK hP 2 (by decide) hf15 rfl (v := .ref (xah a)) rfl dX0_change_63 ?_
                  refine lv_iload_n hx hb dX0_change_66 rfl (lv_at hl 1 rfl) ?_
                  refine x_aldh hx hb hK hP hn4 dX0_change_67 ?_
                  refine lv_iload_n hx hb dX0_change_68 rfl (lv_at hl 2 rfl) ?_
                  refine x_ldh hx hb hK hP hn4 hn44 dX0_change_69 ?_
                  refine lv_iload_n hx hb dX0_change_70 rfl (lv_at hl 3 rfl) ?_
                  refine lv_iload hx hb dX0_change_71 (lv_at hl 4 rfl) ?_
                  refine va_calli (va_runS (As := [.int p1, .int (xh S p1 p2), .int p3, .int p4]) (rest := [.int p2, .int p1, .ref (xa a)]) ⟨hx, hb, hml, hown, hts⟩ (c_X0_changed l p1 (xh S p1 p2) p3 p4) (va_cwS 4 hts gX0_change_X0_changed rfl rfl rfl hdX0_changed ⟨Nat.le_of_ble_eq_true rfl, Nat.le_of_ble_eq_true rfl⟩) pPreS rfl rfl hl.1 rfl (lv_room (Nat.le_of_ble_eq_true rfl)) dX0_change_73 ⟨Nat.zero_le _, Nat.zero_le _⟩) hS (fun q _ h => h.elim) (fun q h => h.elim) (fun r45 u45 t H1 locs ht hvm hw45 hB hz1 hk1 hS => ?_)
                  have hP := P_kept hP hk1
                  refine va_callv (va_runV (As := [.int p1, .int p2, .int r45]) (rest := []) ⟨hx, hb, hml, hown, hts⟩ (c_X0_put l D a hO S p1 p2 r45 hn4 hn44) (cwV 3 hts gX0_change_X0_put rfl rfl rfl hdX0_put ⟨Nat.le_of_ble_eq_true rfl, Nat.le_of_ble_eq_true rfl⟩) (xPreV hK hP) rfl rfl hl.1 rfl (lv_room (Nat.le_of_ble_eq_true rfl)) dX0_change_76 ⟨Nat.zero_le _, Nat.zero_le _⟩) hS (fun q _ h => h) (fun q h => h) (fun S46 t H1 locs ht hvm hw46 hB hz1 hk1 hS => ?_)
                  obtain ⟨hP, -⟩ := hB
                  rw [ht] at hP
                  have hI := xI_put hI hw46
                  refine lv_aload_n hx hb dX0_change_79 rfl (lv_at hl 0 rfl) ?_
                  refine x_get hx hb hts hu hown hK hP 2 (by decide) hf15 rfl (v := .ref (xah a)) rfl dX0_change_80 ?_
                  refine lv_iload_n hx hb dX0_change_83 rfl (lv_at hl 1 rfl) ?_
                  refine x_aldh hx hb hK hP hn4 dX0_change_84 ?_
                  refine lv_iload_n hx hb dX0_change_85 rfl (lv_at hl 2 rfl) ?_
                  refine x_ldh hx hb hK hP hn4 hn44 dX0_change_86 ?_
                  exact W.iret (v := (xh S46 p1 p2)) hx hb hr (fun t ht hW => ⟨⟨(xh S46 p1 p2), S46, rfl, (by simp only [xF_change, hw1, if_neg c2, if_neg c5, if_pos c6, if_pos c7, if_neg c16, if_pos c29, hw38, if_neg c39, hw41, if_pos c43, hw45, hw46]), by rw [ht]; exact hP, va_K.moved hW.alike hK⟩, hS.F ht⟩) hS.2.2 dX0_change_87
                · refine lv_aload_n hx hb dX0_change_53 rfl (lv_at hl 0 rfl) ?_
                  refine x_get hx hb hts hu hown hK hP 9 (by decide) hf37 rfl (v := .int (xLf S41)) rfl dX0_change_54 ?_
                  exact W.iret (v := (xLf S41)) hx hb hr (fun t ht hW => ⟨⟨(xLf S41), S41, rfl, (by simp only [xF_change, hw1, if_neg c2, if_neg c5, if_pos c6, if_pos c7, if_neg c16, if_pos c29, hw38, if_neg c39, hw41, if_neg c43]), by rw [ht]; exact hP, va_K.moved hW.alike hK⟩, hS.F ht⟩) hS.2.2 dX0_change_57
              · refine lv_ldc (v := (-300000)) hx hb hown hk57 dX0_change_41 ?_
                exact W.iret (v := (-300000)) hx hb hr (fun t ht hW => ⟨⟨(-300000), S, rfl, (by simp only [xF_change, hw1, if_neg c2, if_neg c5, if_pos c6, if_pos c7, if_neg c16, if_pos c29, hw38, if_pos c39]), by rw [ht]; exact hP, va_K.moved hW.alike hK⟩, hS.F ht⟩) hS.2.2 dX0_change_43
      · refine lv_ldc (v := (-300000)) hx hb hown hk57 dX0_change_16 ?_
        exact W.iret (v := (-300000)) hx hb hr (fun t ht hW => ⟨⟨(-300000), S, rfl, (by simp only [xF_change, hw1, if_neg c2, if_neg c5, if_neg c6]), by rw [ht]; exact hP, va_K.moved hW.alike hK⟩, hS.F ht⟩) hS.2.2 dX0_change_18
end
section
def xF_sluice (S : XS) (p1 p2 : Int32) : Int32 × XS := (if (xF_isChamber S p1) = 0 then ((-300000), S) else (let q4 := xF_endsAtLine S 1 p1; (if q4.1 = 0 then (let q8 := xF_put q4.2 1 p1 ((xh q4.2 1 p1) - p2); (if (xF_isLast q8 p1) = 0 then (let q14 := xF_endsAtLine q8 1 (p1 + 1); (if q14.1 = 0 then (let q18 := xF_put q14.2 1 (p1 + 1) ((xh q14.2 1 (p1 + 1)) + p2); ((xh q18 1 p1), q18)) else ((xLf q14.2), q14.2))) else ((xh q8 1 p1), q8))) else ((xLf q4.2), q4.2))))
theorem hdX0_sluice : yX0_sluice.cls = RX0 ∧ yX0_sluice.cls ≠ "java/lang/invoke/MethodHandle" ∧ yX0_sluice.cls ≠ "java/lang/invoke/VarHandle" ∧ (parseMethodDescriptor yX0_sluice.desc).map (fun d => d.parameters.length) = some 2 := by decide +kernel
set_option maxHeartbeats 4000000 in
set_option maxRecDepth 100000 in
theorem c_X0_sluice (l : Launch) (D : va_G) (a : XA) (hO : xOk a) (S : XS) (p1 p2 : Int32) (hI : xI S) : Met l yX0_sluice wsX0_sluice ({ frames := 4, cells := 0, slots := 0, locals := 86 }) (va_Pc [.ref (xa a), .int p1, .int p2] (xB D a S)) (xQi D a (xF_sluice S p1 p2)) 0 0 (xA a) := by
  refine Met.ofW (cc := cX0_sluice) (maxL := 3) (ret := (some .int)) (by decide) rfl ?_
  intro p e s m args below meth c s₁ B hml hv
  obtain ⟨rfl, hP, hK⟩ := hv
  have hx := B.exec
  have hb := B.bytes
  have hr := B.returns
  have hts := atoms_spec (ws := wsX0_sluice) B.pre
  have hown : s.vm.findClass RX0 = some m.cls := findClass_of_methodNamed B.named
  have hlocks := B.notSynchronized
  have hS : va_S (xA a) s.heap s.heap [] := va_S.rf
  have hP : va_P D vwCl (xW a S) s.heap := hP
  have hu : ∀ w ∈ wsX00, w ∈ wsX0_sluice := fun _ h => List.mem_cons_of_mem _ (List.mem_append_right _ h)
  have hf15 := hts (.fieldLink RX0 15 "FlightBooks" "held" "[[I") (by decide +kernel)
  have hf37 := hts (.fieldLink RX0 37 "FlightBooks" "latestFault" "I") (by decide +kernel)
  have hk57 := hts (.constant RX0 57 (-300000)) (by decide +kernel)
  have hl := lv_entry ([.ref (xa a), .int p1, .int p2]) (n := 3) (Nat.le_of_ble_eq_true rfl)
  rw [lg_entry_eq]
  generalize (lg_sl ([.ref (xa a), .int p1, .int p2]) ++ List.replicate (3 - (lg_sl ([.ref (xa a), .int p1, .int p2])).length) Slot.unset).toArray = ls at hl ⊢
  have hl : lv_has ls 3 [(0, .ref (xa a)), (1, .int p1), (2, .int p2)] := hl
  refine lv_aload_n hx hb dX0_sluice_0 rfl (lv_at hl 0 rfl) ?_
  refine lv_iload_n hx hb dX0_sluice_1 rfl (lv_at hl 1 rfl) ?_
  refine va_calli (va_runV (As := [.int p1]) (rest := []) ⟨hx, hb, hml, hown, hts⟩ (c_X0_isChamber l D a hO S p1) (cwV 1 hts gX0_sluice_X0_isChamber rfl rfl rfl hdX0_isChamber ⟨Nat.le_of_ble_eq_true rfl, Nat.le_of_ble_eq_true rfl⟩) (xPreV hK hP) rfl rfl hl.1 rfl (lv_room (Nat.le_of_ble_eq_true rfl)) dX0_sluice_2 ⟨Nat.zero_le _, Nat.zero_le _⟩) hS (fun q _ h => h) (fun q h => h) (fun r1 S1 t H1 locs ht hvm hw1 hB hz1 hk1 hS => ?_)
  obtain ⟨hP, -⟩ := hB
  rw [ht] at hP
  obtain ⟨hw1, hSe1⟩ := hw1
  rw [hSe1] at hP
  refine lv_if_ne (tgt := 11) hx hb dX0_sluice_5 (by decide) (fun c2 => ?_) (fun c2 => ?_)
  · have hn3 := xe_cham hI hw1 c2
    refine lv_aload_n hx hb dX0_sluice_11 rfl (lv_at hl 0 rfl) ?_
    refine lv_iconst (v := 1) hx hb dX0_sluice_12 (by decide) ?_
    refine lv_iload_n hx hb dX0_sluice_13 rfl (lv_at hl 1 rfl) ?_
    refine va_calli (va_runV (As := [.int 1, .int p1]) (rest := []) ⟨hx, hb, hml, hown, hts⟩ (c_X0_endsAtLine l D a hO S 1 p1 hI vp_k1_5) (cwV 2 hts gX0_sluice_X0_endsAtLine rfl rfl rfl hdX0_endsAtLine ⟨Nat.le_of_ble_eq_true rfl, Nat.le_of_ble_eq_true rfl⟩) (xPreV hK hP) rfl rfl hl.1 rfl (lv_room (Nat.le_of_ble_eq_true rfl)) dX0_sluice_14 ⟨Nat.zero_le _, Nat.zero_le _⟩) hS (fun q _ h => h) (fun q h => h) (fun r4 S4 t H1 locs ht hvm hw4 hB hz1 hk1 hS => ?_)
    obtain ⟨hP, -⟩ := hB
    rw [ht] at hP
    refine lv_if_eq (tgt := 25) hx hb dX0_sluice_17 (by decide) (fun c6 => ?_) (fun c6 => ?_)
    · obtain ⟨hn7, hs7⟩ := xe_endsAtLine hI vp_k1_5 hw4 c6
      subst hs7
      refine lv_aload_n hx hb dX0_sluice_25 rfl (lv_at hl 0 rfl) ?_
      refine lv_iconst (v := 1) hx hb dX0_sluice_26 (by decide) ?_
      refine lv_iload_n hx hb dX0_sluice_27 rfl (lv_at hl 1 rfl) ?_
      refine lv_aload_n hx hb dX0_sluice_28 rfl (lv_at hl 0 rfl) ?_
      refine x_get hx hb hts hu hown hK hP 2 (by decide) hf15 rfl (v := .ref (xah a)) rfl dX0_sluice_29 ?_
      refine lv_iconst (v := 1) hx hb dX0_sluice_32 (by decide) ?_
      refine x_aldh hx hb hK hP vp_k1_5 dX0_sluice_33 ?_
      refine lv_iload_n hx hb dX0_sluice_34 rfl (lv_at hl 1 rfl) ?_
      refine x_ldh hx hb hK hP vp_k1_5 hn7 dX0_sluice_35 ?_
      refine lv_iload_n hx hb dX0_sluice_36 rfl (lv_at hl 2 rfl) ?_
      refine lv_isub hx hb dX0_sluice_37 ?_
      refine va_callv (va_runV (As := [.int 1, .int p1, .int ((xh S 1 p1) - p2)]) (rest := []) ⟨hx, hb, hml, hown, hts⟩ (c_X0_put l D a hO S 1 p1 ((xh S 1 p1) - p2) vp_k1_5 hn7) (cwV 3 hts gX0_sluice_X0_put rfl rfl rfl hdX0_put ⟨Nat.le_of_ble_eq_true rfl, Nat.le_of_ble_eq_true rfl⟩) (xPreV hK hP) rfl rfl hl.1 rfl (lv_room (Nat.le_of_ble_eq_true rfl)) dX0_sluice_38 ⟨Nat.zero_le _, Nat.zero_le _⟩) hS (fun q _ h => h) (fun q h => h) (fun S8 t H1 locs ht hvm hw8 hB hz1 hk1 hS => ?_)
      obtain ⟨hP, -⟩ := hB
      rw [ht] at hP
      have hI := xI_put hI hw8
      refine lv_aload_n hx hb dX0_sluice_41 rfl (lv_at hl 0 rfl) ?_
      refine lv_iload_n hx hb dX0_sluice_42 rfl (lv_at hl 1 rfl) ?_
      refine va_calli (va_runV (As := [.int p1]) (rest := []) ⟨hx, hb, hml, hown, hts⟩ (c_X0_isLast l D a hO S8 p1) (cwV 1 hts gX0_sluice_X0_isLast rfl rfl rfl hdX0_isLast ⟨Nat.le_of_ble_eq_true rfl, Nat.le_of_ble_eq_true rfl⟩) (xPreV hK hP) rfl rfl hl.1 rfl (lv_room (Nat.le_of_ble_eq_true rfl)) dX0_sluice_43 ⟨Nat.zero_le _, Nat.zero_le _⟩) hS (fun q _ h => h) (fun q h => h) (fun r10 S10 t H1 locs ht hvm hw10 hB hz1 hk1 hS => ?_)
      obtain ⟨hP, -⟩ := hB
      rw [ht] at hP
      obtain ⟨hw10, hSe10⟩ := hw10
      rw [hSe10] at hP
      refine lv_if_ne (tgt := 85) hx hb dX0_sluice_46 (by decide) (fun c11 => ?_) (fun c11 => ?_)
      · refine lv_aload_n hx hb dX0_sluice_85 rfl (lv_at hl 0 rfl) ?_
        refine x_get hx hb hts hu hown hK hP 2 (by decide) hf15 rfl (v := .ref (xah a)) rfl dX0_sluice_86 ?_
        refine lv_iconst (v := 1) hx hb dX0_sluice_89 (by decide) ?_
        refine x_aldh hx hb hK hP vp_k1_5 dX0_sluice_90 ?_
        refine lv_iload_n hx hb dX0_sluice_91 rfl (lv_at hl 1 rfl) ?_
        refine x_ldh hx hb hK hP vp_k1_5 hn7 dX0_sluice_92 ?_
        exact W.iret (v := (xh S8 1 p1)) hx hb hr (fun t ht hW => ⟨⟨(xh S8 1 p1), S8, rfl, (by simp only [xF_sluice, hw1, if_neg c2, hw4, if_pos c6, hw8, hw10, if_neg c11]), by rw [ht]; exact hP, va_K.moved hW.alike hK⟩, hS.F ht⟩) hS.2.2 dX0_sluice_93
      · refine lv_aload_n hx hb dX0_sluice_49 rfl (lv_at hl 0 rfl) ?_
        refine lv_iconst (v := 1) hx hb dX0_sluice_50 (by decide) ?_
        refine lv_iload_n hx hb dX0_sluice_51 rfl (lv_at hl 1 rfl) ?_
        refine lv_iconst (v := 1) hx hb dX0_sluice_52 (by decide) ?_
        refine lv_iadd hx hb dX0_sluice_53 ?_
        refine va_calli (va_runV (As := [.int 1, .int (p1 + 1)]) (rest := []) ⟨hx, hb, hml, hown, hts⟩ (c_X0_endsAtLine l D a hO S8 1 (p1 + 1) hI vp_k1_5) (cwV 2 hts gX0_sluice_X0_endsAtLine rfl rfl rfl hdX0_endsAtLine ⟨Nat.le_of_ble_eq_true rfl, Nat.le_of_ble_eq_true rfl⟩) (xPreV hK hP) rfl rfl hl.1 rfl (lv_room (Nat.le_of_ble_eq_true rfl)) dX0_sluice_54 ⟨Nat.zero_le _, Nat.zero_le _⟩) hS (fun q _ h => h) (fun q h => h) (fun r14 S14 t H1 locs ht hvm hw14 hB hz1 hk1 hS => ?_)
        obtain ⟨hP, -⟩ := hB
        rw [ht] at hP
        refine lv_if_eq (tgt := 65) hx hb dX0_sluice_57 (by decide) (fun c16 => ?_) (fun c16 => ?_)
        · obtain ⟨hn17, hs17⟩ := xe_endsAtLine hI vp_k1_5 hw14 c16
          subst hs17
          refine lv_aload_n hx hb dX0_sluice_65 rfl (lv_at hl 0 rfl) ?_
          refine lv_iconst (v := 1) hx hb dX0_sluice_66 (by decide) ?_
          refine lv_iload_n hx hb dX0_sluice_67 rfl (lv_at hl 1 rfl) ?_
          refine lv_iconst (v := 1) hx hb dX0_sluice_68 (by decide) ?_
          refine lv_iadd hx hb dX0_sluice_69 ?_
          refine lv_aload_n hx hb dX0_sluice_70 rfl (lv_at hl 0 rfl) ?_
          refine x_get hx hb hts hu hown hK hP 2 (by decide) hf15 rfl (v := .ref (xah a)) rfl dX0_sluice_71 ?_
          refine lv_iconst (v := 1) hx hb dX0_sluice_74 (by decide) ?_
          refine x_aldh hx hb hK hP vp_k1_5 dX0_sluice_75 ?_
          refine lv_iload_n hx hb dX0_sluice_76 rfl (lv_at hl 1 rfl) ?_
          refine lv_iconst (v := 1) hx hb dX0_sluice_77 (by decide) ?_
          refine lv_iadd hx hb dX0_sluice_78 ?_
          refine x_ldh hx hb hK hP vp_k1_5 hn17 dX0_sluice_79 ?_
          refine lv_iload_n hx hb dX0_sluice_80 rfl (lv_at hl 2 rfl) ?_
          refine lv_iadd hx hb dX0_sluice_81 ?_
          refine va_callv (va_runV (As := [.int 1, .int (p1 + 1), .int ((xh S8 1 (p1 + 1)) + p2)]) (rest := []) ⟨hx, hb, hml, hown, hts⟩ (c_X0_put l D a hO S8 1 (p1 + 1) ((xh S8 1 (p1 + 1)) + p2) vp_k1_5 hn17) (cwV 3 hts gX0_sluice_X0_put rfl rfl rfl hdX0_put ⟨Nat.le_of_ble_eq_true rfl, Nat.le_of_ble_eq_true rfl⟩) (xPreV hK hP) rfl rfl hl.1 rfl (lv_room (Nat.le_of_ble_eq_true rfl)) dX0_sluice_82 ⟨Nat.zero_le _, Nat.zero_le _⟩) hS (fun q _ h => h) (fun q h => h) (fun S18 t H1 locs ht hvm hw18 hB hz1 hk1 hS => ?_)
          obtain ⟨hP, -⟩ := hB
          rw [ht] at hP
          have hI := xI_put hI hw18
          refine lv_aload_n hx hb dX0_sluice_85 rfl (lv_at hl 0 rfl) ?_
          refine x_get hx hb hts hu hown hK hP 2 (by decide) hf15 rfl (v := .ref (xah a)) rfl dX0_sluice_86 ?_
          refine lv_iconst (v := 1) hx hb dX0_sluice_89 (by decide) ?_
          refine x_aldh hx hb hK hP vp_k1_5 dX0_sluice_90 ?_
          refine lv_iload_n hx hb dX0_sluice_91 rfl (lv_at hl 1 rfl) ?_
          refine x_ldh hx hb hK hP vp_k1_5 hn7 dX0_sluice_92 ?_
          exact W.iret (v := (xh S18 1 p1)) hx hb hr (fun t ht hW => ⟨⟨(xh S18 1 p1), S18, rfl, (by simp only [xF_sluice, hw1, if_neg c2, hw4, if_pos c6, hw8, hw10, if_pos c11, hw14, if_pos c16, hw18]), by rw [ht]; exact hP, va_K.moved hW.alike hK⟩, hS.F ht⟩) hS.2.2 dX0_sluice_93
        · refine lv_aload_n hx hb dX0_sluice_60 rfl (lv_at hl 0 rfl) ?_
          refine x_get hx hb hts hu hown hK hP 9 (by decide) hf37 rfl (v := .int (xLf S14)) rfl dX0_sluice_61 ?_
          exact W.iret (v := (xLf S14)) hx hb hr (fun t ht hW => ⟨⟨(xLf S14), S14, rfl, (by simp only [xF_sluice, hw1, if_neg c2, hw4, if_pos c6, hw8, hw10, if_pos c11, hw14, if_neg c16]), by rw [ht]; exact hP, va_K.moved hW.alike hK⟩, hS.F ht⟩) hS.2.2 dX0_sluice_64
    · refine lv_aload_n hx hb dX0_sluice_20 rfl (lv_at hl 0 rfl) ?_
      refine x_get hx hb hts hu hown hK hP 9 (by decide) hf37 rfl (v := .int (xLf S4)) rfl dX0_sluice_21 ?_
      exact W.iret (v := (xLf S4)) hx hb hr (fun t ht hW => ⟨⟨(xLf S4), S4, rfl, (by simp only [xF_sluice, hw1, if_neg c2, hw4, if_neg c6]), by rw [ht]; exact hP, va_K.moved hW.alike hK⟩, hS.F ht⟩) hS.2.2 dX0_sluice_24
  · refine lv_ldc (v := (-300000)) hx hb hown hk57 dX0_sluice_8 ?_
    exact W.iret (v := (-300000)) hx hb hr (fun t ht hW => ⟨⟨(-300000), S, rfl, (by simp only [xF_sluice, hw1, if_pos c2]), by rw [ht]; exact hP, va_K.moved hW.alike hK⟩, hS.F ht⟩) hS.2.2 dX0_sluice_10
def xF_open (S : XS) (p1 : Int32) : Int32 × XS := (if (xF_isChamber S p1) = 0 then ((-300000), S) else (let q4 := xF_endsAtLine S 1 p1; (if q4.1 = 0 then (if (xF_isLast q4.2 p1) = 0 then (let q20 := xF_endsAtLine q4.2 1 (p1 + 1); (if q20.1 = 0 then (if (xh q20.2 1 p1) = (xh q20.2 1 (p1 + 1)) then (let q25 := xF_endsAtLine q20.2 3 p1; (if q25.1 = 0 then (let q29 := xF_put q25.2 3 p1 1; (0, q29)) else ((xLf q25.2), q25.2))) else ((-2), q20.2)) else ((xLf q20.2), q20.2))) else (if (xh q4.2 1 p1) = 0 then (let q12 := xF_endsAtLine q4.2 3 p1; (if q12.1 = 0 then (let q16 := xF_put q12.2 3 p1 1; (0, q16)) else ((xLf q12.2), q12.2))) else ((-2), q4.2))) else ((xLf q4.2), q4.2))))
theorem hdX0_open : yX0_open.cls = RX0 ∧ yX0_open.cls ≠ "java/lang/invoke/MethodHandle" ∧ yX0_open.cls ≠ "java/lang/invoke/VarHandle" ∧ (parseMethodDescriptor yX0_open.desc).map (fun d => d.parameters.length) = some 1 := by decide +kernel
set_option maxHeartbeats 4000000 in
set_option maxRecDepth 100000 in
theorem c_X0_open (l : Launch) (D : va_G) (a : XA) (hO : xOk a) (S : XS) (p1 : Int32) (hI : xI S) : Met l yX0_open wsX0_open ({ frames := 4, cells := 0, slots := 0, locals := 86 }) (va_Pc [.ref (xa a), .int p1] (xB D a S)) (xQi D a (xF_open S p1)) 0 0 (xA a) := by
  refine Met.ofW (cc := cX0_open) (maxL := 3) (ret := (some .int)) (by decide) rfl ?_
  intro p e s m args below meth c s₁ B hml hv
  obtain ⟨rfl, hP, hK⟩ := hv
  have hx := B.exec
  have hb := B.bytes
  have hr := B.returns
  have hts := atoms_spec (ws := wsX0_open) B.pre
  have hown : s.vm.findClass RX0 = some m.cls := findClass_of_methodNamed B.named
  have hlocks := B.notSynchronized
  have hS : va_S (xA a) s.heap s.heap [] := va_S.rf
  have hP : va_P D vwCl (xW a S) s.heap := hP
  have hu : ∀ w ∈ wsX00, w ∈ wsX0_open := fun _ h => List.mem_cons_of_mem _ (List.mem_append_right _ h)
  have hf15 := hts (.fieldLink RX0 15 "FlightBooks" "held" "[[I") (by decide +kernel)
  have hf37 := hts (.fieldLink RX0 37 "FlightBooks" "latestFault" "I") (by decide +kernel)
  have hk57 := hts (.constant RX0 57 (-300000)) (by decide +kernel)
  have hl := lv_entry ([.ref (xa a), .int p1]) (n := 3) (Nat.le_of_ble_eq_true rfl)
  rw [lg_entry_eq]
  generalize (lg_sl ([.ref (xa a), .int p1]) ++ List.replicate (3 - (lg_sl ([.ref (xa a), .int p1])).length) Slot.unset).toArray = ls at hl ⊢
  have hl : lv_has ls 3 [(0, .ref (xa a)), (1, .int p1)] := hl
  refine lv_aload_n hx hb dX0_open_0 rfl (lv_at hl 0 rfl) ?_
  refine lv_iload_n hx hb dX0_open_1 rfl (lv_at hl 1 rfl) ?_
  refine va_calli (va_runV (As := [.int p1]) (rest := []) ⟨hx, hb, hml, hown, hts⟩ (c_X0_isChamber l D a hO S p1) (cwV 1 hts gX0_open_X0_isChamber rfl rfl rfl hdX0_isChamber ⟨Nat.le_of_ble_eq_true rfl, Nat.le_of_ble_eq_true rfl⟩) (xPreV hK hP) rfl rfl hl.1 rfl (lv_room (Nat.le_of_ble_eq_true rfl)) dX0_open_2 ⟨Nat.zero_le _, Nat.zero_le _⟩) hS (fun q _ h => h) (fun q h => h) (fun r1 S1 t H1 locs ht hvm hw1 hB hz1 hk1 hS => ?_)
  obtain ⟨hP, -⟩ := hB
  rw [ht] at hP
  obtain ⟨hw1, hSe1⟩ := hw1
  rw [hSe1] at hP
  refine lv_if_ne (tgt := 11) hx hb dX0_open_5 (by decide) (fun c2 => ?_) (fun c2 => ?_)
  · have hn3 := xe_cham hI hw1 c2
    refine lv_aload_n hx hb dX0_open_11 rfl (lv_at hl 0 rfl) ?_
    refine lv_iconst (v := 1) hx hb dX0_open_12 (by decide) ?_
    refine lv_iload_n hx hb dX0_open_13 rfl (lv_at hl 1 rfl) ?_
    refine va_calli (va_runV (As := [.int 1, .int p1]) (rest := []) ⟨hx, hb, hml, hown, hts⟩ (c_X0_endsAtLine l D a hO S 1 p1 hI vp_k1_5) (cwV 2 hts gX0_open_X0_endsAtLine rfl rfl rfl hdX0_endsAtLine ⟨Nat.le_of_ble_eq_true rfl, Nat.le_of_ble_eq_true rfl⟩) (xPreV hK hP) rfl rfl hl.1 rfl (lv_room (Nat.le_of_ble_eq_true rfl)) dX0_open_14 ⟨Nat.zero_le _, Nat.zero_le _⟩) hS (fun q _ h => h) (fun q h => h) (fun r4 S4 t H1 locs ht hvm hw4 hB hz1 hk1 hS => ?_)
    obtain ⟨hP, -⟩ := hB
    rw [ht] at hP
    refine lv_if_eq (tgt := 25) hx hb dX0_open_17 (by decide) (fun c6 => ?_) (fun c6 => ?_)
    · obtain ⟨hn7, hs7⟩ := xe_endsAtLine hI vp_k1_5 hw4 c6
      subst hs7
      refine lv_iconst (v := 0) hx hb dX0_open_25 (by decide) ?_
      refine lv_istore_n (lv' := [(2, .int 0), (0, .ref (xa a)), (1, .int p1)]) hx hb dX0_open_26 rfl hl (by decide) rfl (fun ls hl => ?_)
      refine lv_aload_n hx hb dX0_open_27 rfl (lv_at hl 1 rfl) ?_
      refine lv_iload_n hx hb dX0_open_28 rfl (lv_at hl 2 rfl) ?_
      refine va_calli (va_runV (As := [.int p1]) (rest := []) ⟨hx, hb, hml, hown, hts⟩ (c_X0_isLast l D a hO S p1) (cwV 1 hts gX0_open_X0_isLast rfl rfl rfl hdX0_isLast ⟨Nat.le_of_ble_eq_true rfl, Nat.le_of_ble_eq_true rfl⟩) (xPreV hK hP) rfl rfl hl.1 rfl (lv_room (Nat.le_of_ble_eq_true rfl)) dX0_open_29 ⟨Nat.zero_le _, Nat.zero_le _⟩) hS (fun q _ h => h) (fun q h => h) (fun r8 S8 t H1 locs ht hvm hw8 hB hz1 hk1 hS => ?_)
      obtain ⟨hP, -⟩ := hB
      rw [ht] at hP
      obtain ⟨hw8, hSe8⟩ := hw8
      rw [hSe8] at hP
      refine lv_if_ne (tgt := 62) hx hb dX0_open_32 (by decide) (fun c9 => ?_) (fun c9 => ?_)
      · refine lv_aload_n hx hb dX0_open_62 rfl (lv_at hl 1 rfl) ?_
        refine x_get hx hb hts hu hown hK hP 2 (by decide) hf15 rfl (v := .ref (xah a)) rfl dX0_open_63 ?_
        refine lv_iconst (v := 1) hx hb dX0_open_66 (by decide) ?_
        refine x_aldh hx hb hK hP vp_k1_5 dX0_open_67 ?_
        refine lv_iload_n hx hb dX0_open_68 rfl (lv_at hl 2 rfl) ?_
        refine x_ldh hx hb hK hP vp_k1_5 hn7 dX0_open_69 ?_
        refine lv_iload_n hx hb dX0_open_70 rfl (lv_at hl 0 rfl) ?_
        refine lv_icmp_eq (tgt := 77) hx hb dX0_open_71 (by decide) (fun c11 => ?_) (fun c11 => ?_)
        · refine lv_aload_n hx hb dX0_open_77 rfl (lv_at hl 1 rfl) ?_
          refine lv_iconst (v := 3) hx hb dX0_open_78 (by decide) ?_
          refine lv_iload_n hx hb dX0_open_79 rfl (lv_at hl 2 rfl) ?_
          refine va_calli (va_runV (As := [.int 3, .int p1]) (rest := []) ⟨hx, hb, hml, hown, hts⟩ (c_X0_endsAtLine l D a hO S 3 p1 hI vp_k3_5) (cwV 2 hts gX0_open_X0_endsAtLine rfl rfl rfl hdX0_endsAtLine ⟨Nat.le_of_ble_eq_true rfl, Nat.le_of_ble_eq_true rfl⟩) (xPreV hK hP) rfl rfl hl.1 rfl (lv_room (Nat.le_of_ble_eq_true rfl)) dX0_open_80 ⟨Nat.zero_le _, Nat.zero_le _⟩) hS (fun q _ h => h) (fun q h => h) (fun r12 S12 t H1 locs ht hvm hw12 hB hz1 hk1 hS => ?_)
          obtain ⟨hP, -⟩ := hB
          rw [ht] at hP
          refine lv_if_eq (tgt := 91) hx hb dX0_open_83 (by decide) (fun c14 => ?_) (fun c14 => ?_)
          · obtain ⟨hn15, hs15⟩ := xe_endsAtLine hI vp_k3_5 hw12 c14
            subst hs15
            refine lv_aload_n hx hb dX0_open_91 rfl (lv_at hl 1 rfl) ?_
            refine lv_iconst (v := 3) hx hb dX0_open_92 (by decide) ?_
            refine lv_iload_n hx hb dX0_open_93 rfl (lv_at hl 2 rfl) ?_
            refine lv_iconst (v := 1) hx hb dX0_open_94 (by decide) ?_
            refine va_callv (va_runV (As := [.int 3, .int p1, .int 1]) (rest := []) ⟨hx, hb, hml, hown, hts⟩ (c_X0_put l D a hO S 3 p1 1 vp_k3_5 hn15) (cwV 3 hts gX0_open_X0_put rfl rfl rfl hdX0_put ⟨Nat.le_of_ble_eq_true rfl, Nat.le_of_ble_eq_true rfl⟩) (xPreV hK hP) rfl rfl hl.1 rfl (lv_room (Nat.le_of_ble_eq_true rfl)) dX0_open_95 ⟨Nat.zero_le _, Nat.zero_le _⟩) hS (fun q _ h => h) (fun q h => h) (fun S16 t H1 locs ht hvm hw16 hB hz1 hk1 hS => ?_)
            obtain ⟨hP, -⟩ := hB
            rw [ht] at hP
            have hI := xI_put hI hw16
            refine lv_iconst (v := 0) hx hb dX0_open_98 (by decide) ?_
            exact W.iret (v := 0) hx hb hr (fun t ht hW => ⟨⟨0, S16, rfl, (by simp only [xF_open, hw1, if_neg c2, hw4, if_pos c6, hw8, if_neg c9, if_pos c11, hw12, if_pos c14, hw16]), by rw [ht]; exact hP, va_K.moved hW.alike hK⟩, hS.F ht⟩) hS.2.2 dX0_open_99
          · refine lv_aload_n hx hb dX0_open_86 rfl (lv_at hl 1 rfl) ?_
            refine x_get hx hb hts hu hown hK hP 9 (by decide) hf37 rfl (v := .int (xLf S12)) rfl dX0_open_87 ?_
            exact W.iret (v := (xLf S12)) hx hb hr (fun t ht hW => ⟨⟨(xLf S12), S12, rfl, (by simp only [xF_open, hw1, if_neg c2, hw4, if_pos c6, hw8, if_neg c9, if_pos c11, hw12, if_neg c14]), by rw [ht]; exact hP, va_K.moved hW.alike hK⟩, hS.F ht⟩) hS.2.2 dX0_open_90
        · refine lv_bipush (v := (-2)) hx hb dX0_open_74 (by decide) ?_
          exact W.iret (v := (-2)) hx hb hr (fun t ht hW => ⟨⟨(-2), S, rfl, (by simp only [xF_open, hw1, if_neg c2, hw4, if_pos c6, hw8, if_neg c9, if_neg c11]), by rw [ht]; exact hP, va_K.moved hW.alike hK⟩, hS.F ht⟩) hS.2.2 dX0_open_76
      · refine lv_aload_n hx hb dX0_open_35 rfl (lv_at hl 1 rfl) ?_
        refine lv_iconst (v := 1) hx hb dX0_open_36 (by decide) ?_
        refine lv_iload_n hx hb dX0_open_37 rfl (lv_at hl 2 rfl) ?_
        refine lv_iconst (v := 1) hx hb dX0_open_38 (by decide) ?_
        refine lv_iadd hx hb dX0_open_39 ?_
        refine va_calli (va_runV (As := [.int 1, .int (p1 + 1)]) (rest := []) ⟨hx, hb, hml, hown, hts⟩ (c_X0_endsAtLine l D a hO S 1 (p1 + 1) hI vp_k1_5) (cwV 2 hts gX0_open_X0_endsAtLine rfl rfl rfl hdX0_endsAtLine ⟨Nat.le_of_ble_eq_true rfl, Nat.le_of_ble_eq_true rfl⟩) (xPreV hK hP) rfl rfl hl.1 rfl (lv_room (Nat.le_of_ble_eq_true rfl)) dX0_open_40 ⟨Nat.zero_le _, Nat.zero_le _⟩) hS (fun q _ h => h) (fun q h => h) (fun r20 S20 t H1 locs ht hvm hw20 hB hz1 hk1 hS => ?_)
        obtain ⟨hP, -⟩ := hB
        rw [ht] at hP
        refine lv_if_eq (tgt := 51) hx hb dX0_open_43 (by decide) (fun c22 => ?_) (fun c22 => ?_)
        · obtain ⟨hn23, hs23⟩ := xe_endsAtLine hI vp_k1_5 hw20 c22
          subst hs23
          refine lv_aload_n hx hb dX0_open_51 rfl (lv_at hl 1 rfl) ?_
          refine x_get hx hb hts hu hown hK hP 2 (by decide) hf15 rfl (v := .ref (xah a)) rfl dX0_open_52 ?_
          refine lv_iconst (v := 1) hx hb dX0_open_55 (by decide) ?_
          refine x_aldh hx hb hK hP vp_k1_5 dX0_open_56 ?_
          refine lv_iload_n hx hb dX0_open_57 rfl (lv_at hl 2 rfl) ?_
          refine lv_iconst (v := 1) hx hb dX0_open_58 (by decide) ?_
          refine lv_iadd hx hb dX0_open_59 ?_
          refine x_ldh hx hb hK hP vp_k1_5 hn23 dX0_open_60 ?_
          refine lv_istore_n (lv' := [(2, .int (xh S 1 (p1 + 1))), (0, .ref (xa a)), (1, .int p1)]) hx hb dX0_open_61 rfl hl (by decide) rfl (fun ls hl => ?_)
          refine lv_aload_n hx hb dX0_open_62 rfl (lv_at hl 1 rfl) ?_
          refine x_get hx hb hts hu hown hK hP 2 (by decide) hf15 rfl (v := .ref (xah a)) rfl dX0_open_63 ?_
          refine lv_iconst (v := 1) hx hb dX0_open_66 (by decide) ?_
          refine x_aldh hx hb hK hP vp_k1_5 dX0_open_67 ?_
          refine lv_iload_n hx hb dX0_open_68 rfl (lv_at hl 2 rfl) ?_
          refine x_ldh hx hb hK hP vp_k1_5 hn7 dX0_open_69 ?_
          refine lv_iload_n hx hb dX0_open_70 rfl (lv_at hl 0 rfl) ?_
          refine lv_icmp_eq (tgt := 77) hx hb dX0_open_71 (by decide) (fun c24 => ?_) (fun c24 => ?_)
          · refine lv_aload_n hx hb dX0_open_77 rfl (lv_at hl 1 rfl) ?_
            refine lv_iconst (v := 3) hx hb dX0_open_78 (by decide) ?_
            refine lv_iload_n hx hb dX0_open_79 rfl (lv_at hl 2 rfl) ?_
            refine va_calli (va_runV (As := [.int 3, .int p1]) (rest := []) ⟨hx, hb, hml, hown, hts⟩ (c_X0_endsAtLine l D a hO S 3 p1 hI vp_k3_5) (cwV 2 hts gX0_open_X0_endsAtLine rfl rfl rfl hdX0_endsAtLine ⟨Nat.le_of_ble_eq_true rfl, Nat.le_of_ble_eq_true rfl⟩) (xPreV hK hP) rfl rfl hl.1 rfl (lv_room (Nat.le_of_ble_eq_true rfl)) dX0_open_80 ⟨Nat.zero_le _, Nat.zero_le _⟩) hS (fun q _ h => h) (fun q h => h) (fun r25 S25 t H1 locs ht hvm hw25 hB hz1 hk1 hS => ?_)
            obtain ⟨hP, -⟩ := hB
            rw [ht] at hP
            refine lv_if_eq (tgt := 91) hx hb dX0_open_83 (by decide) (fun c27 => ?_) (fun c27 => ?_)
            · obtain ⟨hn28, hs28⟩ := xe_endsAtLine hI vp_k3_5 hw25 c27
              subst hs28
              refine lv_aload_n hx hb dX0_open_91 rfl (lv_at hl 1 rfl) ?_
              refine lv_iconst (v := 3) hx hb dX0_open_92 (by decide) ?_
              refine lv_iload_n hx hb dX0_open_93 rfl (lv_at hl 2 rfl) ?_
              refine lv_iconst (v := 1) hx hb dX0_open_94 (by decide) ?_
              refine va_callv (va_runV (As := [.int 3, .int p1, .int 1]) (rest := []) ⟨hx, hb, hml, hown, hts⟩ (c_X0_put l D a hO S 3 p1 1 vp_k3_5 hn28) (cwV 3 hts gX0_open_X0_put rfl rfl rfl hdX0_put ⟨Nat.le_of_ble_eq_true rfl, Nat.le_of_ble_eq_true rfl⟩) (xPreV hK hP) rfl rfl hl.1 rfl (lv_room (Nat.le_of_ble_eq_true rfl)) dX0_open_95 ⟨Nat.zero_le _, Nat.zero_le _⟩) hS (fun q _ h => h) (fun q h => h) (fun S29 t H1 locs ht hvm hw29 hB hz1 hk1 hS => ?_)
              obtain ⟨hP, -⟩ := hB
              rw [ht] at hP
              have hI := xI_put hI hw29
              refine lv_iconst (v := 0) hx hb dX0_open_98 (by decide) ?_
              exact W.iret (v := 0) hx hb hr (fun t ht hW => ⟨⟨0, S29, rfl, (by simp only [xF_open, hw1, if_neg c2, hw4, if_pos c6, hw8, if_pos c9, hw20, if_pos c22, if_pos c24, hw25, if_pos c27, hw29]), by rw [ht]; exact hP, va_K.moved hW.alike hK⟩, hS.F ht⟩) hS.2.2 dX0_open_99
            · refine lv_aload_n hx hb dX0_open_86 rfl (lv_at hl 1 rfl) ?_
              refine x_get hx hb hts hu hown hK hP 9 (by decide) hf37 rfl (v := .int (xLf S25)) rfl dX0_open_87 ?_
              exact W.iret (v := (xLf S25)) hx hb hr (fun t ht hW => ⟨⟨(xLf S25), S25, rfl, (by simp only [xF_open, hw1, if_neg c2, hw4, if_pos c6, hw8, if_pos c9, hw20, if_pos c22, if_pos c24, hw25, if_neg c27]), by rw [ht]; exact hP, va_K.moved hW.alike hK⟩, hS.F ht⟩) hS.2.2 dX0_open_90
          · refine lv_bipush (v := (-2)) hx hb dX0_open_74 (by decide) ?_
            exact W.iret (v := (-2)) hx hb hr (fun t ht hW => ⟨⟨(-2), S, rfl, (by simp only [xF_open, hw1, if_neg c2, hw4, if_pos c6, hw8, if_pos c9, hw20, if_pos c22, if_neg c24]), by rw [ht]; exact hP, va_K.moved hW.alike hK⟩, hS.F ht⟩) hS.2.2 dX0_open_76
        · refine lv_aload_n hx hb dX0_open_46 rfl (lv_at hl 1 rfl) ?_
          refine x_get hx hb hts hu hown hK hP 9 (by decide) hf37 rfl (v := .int (xLf S20)) rfl dX0_open_47 ?_
          exact W.iret (v := (xLf S20)) hx hb hr (fun t ht hW => ⟨⟨(xLf S20), S20, rfl, (by simp only [xF_open, hw1, if_neg c2, hw4, if_pos c6, hw8, if_pos c9, hw20, if_neg c22]), by rw [ht]; exact hP, va_K.moved hW.alike hK⟩, hS.F ht⟩) hS.2.2 dX0_open_50
    · refine lv_aload_n hx hb dX0_open_20 rfl (lv_at hl 0 rfl) ?_
      refine x_get hx hb hts hu hown hK hP 9 (by decide) hf37 rfl (v := .int (xLf S4)) rfl dX0_open_21 ?_
      exact W.iret (v := (xLf S4)) hx hb hr (fun t ht hW => ⟨⟨(xLf S4), S4, rfl, (by simp only [xF_open, hw1, if_neg c2, hw4, if_neg c6]), by rw [ht]; exact hP, va_K.moved hW.alike hK⟩, hS.F ht⟩) hS.2.2 dX0_open_24
  · refine lv_ldc (v := (-300000)) hx hb hown hk57 dX0_open_8 ?_
    exact W.iret (v := (-300000)) hx hb hr (fun t ht hW => ⟨⟨(-300000), S, rfl, (by simp only [xF_open, hw1, if_pos c2]), by rw [ht]; exact hP, va_K.moved hW.alike hK⟩, hS.F ht⟩) hS.2.2 dX0_open_10
def xF_shut (S : XS) (p1 : Int32) : Int32 × XS := (if (xF_isChamber S p1) = 0 then ((-300000), S) else (let q4 := xF_endsAtLine S 3 p1; (if q4.1 = 0 then (let q8 := xF_put q4.2 3 p1 0; ((xh q4.2 3 p1), q8)) else ((xLf q4.2), q4.2))))
theorem hdX0_shut : yX0_shut.cls = RX0 ∧ yX0_shut.cls ≠ "java/lang/invoke/MethodHandle" ∧ yX0_shut.cls ≠ "java/lang/invoke/VarHandle" ∧ (parseMethodDescriptor yX0_shut.desc).map (fun d => d.parameters.length) = some 1 := by decide +kernel
set_option maxHeartbeats 4000000 in
set_option maxRecDepth 100000 in
theorem c_X0_shut (l : Launch) (D : va_G) (a : XA) (hO : xOk a) (S : XS) (p1 : Int32) (hI : xI S) : Met l yX0_shut wsX0_shut ({ frames := 4, cells := 0, slots := 0, locals := 86 }) (va_Pc [.ref (xa a), .int p1] (xB D a S)) (xQi D a (xF_shut S p1)) 0 0 (xA a) := by
  refine Met.ofW (cc := cX0_shut) (maxL := 3) (ret := (some .int)) (by decide) rfl ?_
  intro p e s m args below meth c s₁ B hml hv
  obtain ⟨rfl, hP, hK⟩ := hv
  have hx := B.exec
  have hb := B.bytes
  have hr := B.returns
  have hts := atoms_spec (ws := wsX0_shut) B.pre
  have hown : s.vm.findClass RX0 = some m.cls := findClass_of_methodNamed B.named
  have hlocks := B.notSynchronized
  have hS : va_S (xA a) s.heap s.heap [] := va_S.rf
  have hP : va_P D vwCl (xW a S) s.heap := hP
  have hu : ∀ w ∈ wsX00, w ∈ wsX0_shut := fun _ h => List.mem_cons_of_mem _ (List.mem_append_right _ h)
  have hf15 := hts (.fieldLink RX0 15 "FlightBooks" "held" "[[I") (by decide +kernel)
  have hf37 := hts (.fieldLink RX0 37 "FlightBooks" "latestFault" "I") (by decide +kernel)
  have hk57 := hts (.constant RX0 57 (-300000)) (by decide +kernel)
  have hl := lv_entry ([.ref (xa a), .int p1]) (n := 3) (Nat.le_of_ble_eq_true rfl)
  rw [lg_entry_eq]
  generalize (lg_sl ([.ref (xa a), .int p1]) ++ List.replicate (3 - (lg_sl ([.ref (xa a), .int p1])).length) Slot.unset).toArray = ls at hl ⊢
  have hl : lv_has ls 3 [(0, .ref (xa a)), (1, .int p1)] := hl
  refine lv_aload_n hx hb dX0_shut_0 rfl (lv_at hl 0 rfl) ?_
  refine lv_iload_n hx hb dX0_shut_1 rfl (lv_at hl 1 rfl) ?_
  refine va_calli (va_runV (As := [.int p1]) (rest := []) ⟨hx, hb, hml, hown, hts⟩ (c_X0_isChamber l D a hO S p1) (cwV 1 hts gX0_shut_X0_isChamber rfl rfl rfl hdX0_isChamber ⟨Nat.le_of_ble_eq_true rfl, Nat.le_of_ble_eq_true rfl⟩) (xPreV hK hP) rfl rfl hl.1 rfl (lv_room (Nat.le_of_ble_eq_true rfl)) dX0_shut_2 ⟨Nat.zero_le _, Nat.zero_le _⟩) hS (fun q _ h => h) (fun q h => h) (fun r1 S1 t H1 locs ht hvm hw1 hB hz1 hk1 hS => ?_)
  obtain ⟨hP, -⟩ := hB
  rw [ht] at hP
  obtain ⟨hw1, hSe1⟩ := hw1
  rw [hSe1] at hP
  refine lv_if_ne (tgt := 11) hx hb dX0_shut_5 (by decide) (fun c2 => ?_) (fun c2 => ?_)
  · have hn3 := xe_cham hI hw1 c2
    refine lv_aload_n hx hb dX0_shut_11 rfl (lv_at hl 0 rfl) ?_
    refine lv_iconst (v := 3) hx hb dX0_shut_12 (by decide) ?_
    refine lv_iload_n hx hb dX0_shut_13 rfl (lv_at hl 1 rfl) ?_
    refine va_calli (va_runV (As := [.int 3, .int p1]) (rest := []) ⟨hx, hb, hml, hown, hts⟩ (c_X0_endsAtLine l D a hO S 3 p1 hI vp_k3_5) (cwV 2 hts gX0_shut_X0_endsAtLine rfl rfl rfl hdX0_endsAtLine ⟨Nat.le_of_ble_eq_true rfl, Nat.le_of_ble_eq_true rfl⟩) (xPreV hK hP) rfl rfl hl.1 rfl (lv_room (Nat.le_of_ble_eq_true rfl)) dX0_shut_14 ⟨Nat.zero_le _, Nat.zero_le _⟩) hS (fun q _ h => h) (fun q h => h) (fun r4 S4 t H1 locs ht hvm hw4 hB hz1 hk1 hS => ?_)
    obtain ⟨hP, -⟩ := hB
    rw [ht] at hP
    refine lv_if_eq (tgt := 25) hx hb dX0_shut_17 (by decide) (fun c6 => ?_) (fun c6 => ?_)
    · obtain ⟨hn7, hs7⟩ := xe_endsAtLine hI vp_k3_5 hw4 c6
      subst hs7
      refine lv_aload_n hx hb dX0_shut_25 rfl (lv_at hl 0 rfl) ?_
      refine x_get hx hb hts hu hown hK hP 2 (by decide) hf15 rfl (v := .ref (xah a)) rfl dX0_shut_26 ?_
      refine lv_iconst (v := 3) hx hb dX0_shut_29 (by decide) ?_
      refine x_aldh hx hb hK hP vp_k3_5 dX0_shut_30 ?_
      refine lv_iload_n hx hb dX0_shut_31 rfl (lv_at hl 1 rfl) ?_
      refine x_ldh hx hb hK hP vp_k3_5 hn7 dX0_shut_32 ?_
      refine lv_istore_n (lv' := [(2, .int (xh S 3 p1)), (0, .ref (xa a)), (1, .int p1)]) hx hb dX0_shut_33 rfl hl (by decide) rfl (fun ls hl => ?_)
      refine lv_aload_n hx hb dX0_shut_34 rfl (lv_at hl 1 rfl) ?_
      refine lv_iconst (v := 3) hx hb dX0_shut_35 (by decide) ?_
      refine lv_iload_n hx hb dX0_shut_36 rfl (lv_at hl 2 rfl) ?_
      refine lv_iconst (v := 0) hx hb dX0_shut_37 (by decide) ?_
      refine va_callv (va_runV (As := [.int 3, .int p1, .int 0]) (rest := []) ⟨hx, hb, hml, hown, hts⟩ (c_X0_put l D a hO S 3 p1 0 vp_k3_5 hn7) (cwV 3 hts gX0_shut_X0_put rfl rfl rfl hdX0_put ⟨Nat.le_of_ble_eq_true rfl, Nat.le_of_ble_eq_true rfl⟩) (xPreV hK hP) rfl rfl hl.1 rfl (lv_room (Nat.le_of_ble_eq_true rfl)) dX0_shut_38 ⟨Nat.zero_le _, Nat.zero_le _⟩) hS (fun q _ h => h) (fun q h => h) (fun S8 t H1 locs ht hvm hw8 hB hz1 hk1 hS => ?_)
      obtain ⟨hP, -⟩ := hB
      rw [ht] at hP
      have hI := xI_put hI hw8
      refine lv_iload_n hx hb dX0_shut_41 rfl (lv_at hl 0 rfl) ?_
      exact W.iret (v := (xh S 3 p1)) hx hb hr (fun t ht hW => ⟨⟨(xh S 3 p1), S8, rfl, (by simp only [xF_shut, hw1, if_neg c2, hw4, if_pos c6, hw8]), by rw [ht]; exact hP, va_K.moved hW.alike hK⟩, hS.F ht⟩) hS.2.2 dX0_shut_42
    · refine lv_aload_n hx hb dX0_shut_20 rfl (lv_at hl 0 rfl) ?_
      refine x_get hx hb hts hu hown hK hP 9 (by decide) hf37 rfl (v := .int (xLf S4)) rfl dX0_shut_21 ?_
      exact W.iret (v := (xLf S4)) hx hb hr (fun t ht hW => ⟨⟨(xLf S4), S4, rfl, (by simp only [xF_shut, hw1, if_neg c2, hw4, if_neg c6]), by rw [ht]; exact hP, va_K.moved hW.alike hK⟩, hS.F ht⟩) hS.2.2 dX0_shut_24
  · refine lv_ldc (v := (-300000)) hx hb hown hk57 dX0_shut_8 ?_
    exact W.iret (v := (-300000)) hx hb hr (fun t ht hW => ⟨⟨(-300000), S, rfl, (by simp only [xF_shut, hw1, if_pos c2]), by rw [ht]; exact hP, va_K.moved hW.alike hK⟩, hS.F ht⟩) hS.2.2 dX0_shut_10
def xF_enter (S : XS) (p1 p2 : Int32) : Int32 × XS := (if (xF_cut 0 p1) = 0 then ((-300000), S) else (if p2 < 0 then ((-300000), S) else (if p2 ≤ 16000 then (let q7 := xF_endsAtLine S 0 0; (if q7.1 = 0 then (if (xh q7.2 0 0) = 0 then (let q12 := xF_endsAtLine q7.2 1 0; (if q12.1 = 0 then (if p2 ≤ (8 * (xh q12.2 1 0)) then (let q17 := xF_endsAtArrival q12.2 0 p1 p2; (if q17.1 = 0 then ((xh q17.2 4 0), q17.2) else ((xLf q17.2), q17.2))) else ((-3), q12.2)) else ((xLf q12.2), q12.2))) else ((-2), q7.2)) else ((xLf q7.2), q7.2))) else ((-300000), S))))
theorem hdX0_enter : yX0_enter.cls = RX0 ∧ yX0_enter.cls ≠ "java/lang/invoke/MethodHandle" ∧ yX0_enter.cls ≠ "java/lang/invoke/VarHandle" ∧ (parseMethodDescriptor yX0_enter.desc).map (fun d => d.parameters.length) = some 2 := by decide +kernel
set_option maxHeartbeats 4000000 in
set_option maxRecDepth 100000 in
theorem c_X0_enter (l : Launch) (D : va_G) (a : XA) (hO : xOk a) (S : XS) (p1 p2 : Int32) (hI : xI S) : Met l yX0_enter wsX0_enter ({ frames := 5, cells := 0, slots := 0, locals := 109 }) (va_Pc [.ref (xa a), .int p1, .int p2] (xB D a S)) (xQi D a (xF_enter S p1 p2)) 0 0 (xA a) := by
  refine Met.ofW (cc := cX0_enter) (maxL := 3) (ret := (some .int)) (by decide) rfl ?_
  intro p e s m args below meth c s₁ B hml hv
  obtain ⟨rfl, hP, hK⟩ := hv
  have hx := B.exec
  have hb := B.bytes
  have hr := B.returns
  have hts := atoms_spec (ws := wsX0_enter) B.pre
  have hown : s.vm.findClass RX0 = some m.cls := findClass_of_methodNamed B.named
  have hlocks := B.notSynchronized
  have hS : va_S (xA a) s.heap s.heap [] := va_S.rf
  have hP : va_P D vwCl (xW a S) s.heap := hP
  have hu : ∀ w ∈ wsX00, w ∈ wsX0_enter := fun _ h => List.mem_cons_of_mem _ (List.mem_append_right _ h)
  have hk57 := hts (.constant RX0 57 (-300000)) (by decide +kernel)
  have hf15 := hts (.fieldLink RX0 15 "FlightBooks" "held" "[[I") (by decide +kernel)
  have hf37 := hts (.fieldLink RX0 37 "FlightBooks" "latestFault" "I") (by decide +kernel)
  have hl := lv_entry ([.ref (xa a), .int p1, .int p2]) (n := 3) (Nat.le_of_ble_eq_true rfl)
  rw [lg_entry_eq]
  generalize (lg_sl ([.ref (xa a), .int p1, .int p2]) ++ List.replicate (3 - (lg_sl ([.ref (xa a), .int p1, .int p2])).length) Slot.unset).toArray = ls at hl ⊢
  have hl : lv_has ls 3 [(0, .ref (xa a)), (1, .int p1), (2, .int p2)] := hl
  refine lv_iconst (v := 0) hx hb dX0_enter_0 (by decide) ?_
  refine lv_iload_n hx hb dX0_enter_1 rfl (lv_at hl 1 rfl) ?_
  refine va_calli (va_runS (As := [.int 0, .int p1]) (rest := []) ⟨hx, hb, hml, hown, hts⟩ (c_X0_cut l 0 p1) (va_cwS 2 hts gX0_enter_X0_cut rfl rfl rfl hdX0_cut ⟨Nat.le_of_ble_eq_true rfl, Nat.le_of_ble_eq_true rfl⟩) pPreS rfl rfl hl.1 rfl (lv_room (Nat.le_of_ble_eq_true rfl)) dX0_enter_2 ⟨Nat.zero_le _, Nat.zero_le _⟩) hS (fun q _ h => h.elim) (fun q h => h.elim) (fun r1 u1 t H1 locs ht hvm hw1 hB hz1 hk1 hS => ?_)
  have hP := P_kept hP hk1
  refine lv_if_eq (tgt := 19) hx hb dX0_enter_5 (by decide) (fun c2 => ?_) (fun c2 => ?_)
  · refine lv_ldc (v := (-300000)) hx hb hown hk57 dX0_enter_19 ?_
    exact W.iret (v := (-300000)) hx hb hr (fun t ht hW => ⟨⟨(-300000), S, rfl, (by simp only [xF_enter, hw1, if_pos c2]), by rw [ht]; exact hP, va_K.moved hW.alike hK⟩, hS.F ht⟩) hS.2.2 dX0_enter_21
  · refine lv_iload_n hx hb dX0_enter_8 rfl (lv_at hl 2 rfl) ?_
    refine lv_if_lt (tgt := 19) hx hb dX0_enter_9 (by decide) (fun c5 => ?_) (fun c5 => ?_)
    · refine lv_ldc (v := (-300000)) hx hb hown hk57 dX0_enter_19 ?_
      exact W.iret (v := (-300000)) hx hb hr (fun t ht hW => ⟨⟨(-300000), S, rfl, (by simp only [xF_enter, hw1, if_neg c2, if_pos c5]), by rw [ht]; exact hP, va_K.moved hW.alike hK⟩, hS.F ht⟩) hS.2.2 dX0_enter_21
    · refine lv_iload_n hx hb dX0_enter_12 rfl (lv_at hl 2 rfl) ?_
      refine lv_sipush (v := 16000) hx hb dX0_enter_13 (by decide) ?_
      refine lv_icmp_le (tgt := 22) hx hb dX0_enter_16 (by decide) (fun c6 => ?_) (fun c6 => ?_)
      · refine lv_aload_n hx hb dX0_enter_22 rfl (lv_at hl 0 rfl) ?_
        refine lv_iconst (v := 0) hx hb dX0_enter_23 (by decide) ?_
        refine lv_iconst (v := 0) hx hb dX0_enter_24 (by decide) ?_
        refine va_calli (va_runV (As := [.int 0, .int 0]) (rest := []) ⟨hx, hb, hml, hown, hts⟩ (c_X0_endsAtLine l D a hO S 0 0 hI vp_k0_5) (cwV 2 hts gX0_enter_X0_endsAtLine rfl rfl rfl hdX0_endsAtLine ⟨Nat.le_of_ble_eq_true rfl, Nat.le_of_ble_eq_true rfl⟩) (xPreV hK hP) rfl rfl hl.1 rfl (lv_room (Nat.le_of_ble_eq_true rfl)) dX0_enter_25 ⟨Nat.zero_le _, Nat.zero_le _⟩) hS (fun q _ h => h) (fun q h => h) (fun r7 S7 t H1 locs ht hvm hw7 hB hz1 hk1 hS => ?_)
        obtain ⟨hP, -⟩ := hB
        rw [ht] at hP
        refine lv_if_eq (tgt := 36) hx hb dX0_enter_28 (by decide) (fun c9 => ?_) (fun c9 => ?_)
        · obtain ⟨hn10, hs10⟩ := xe_endsAtLine hI vp_k0_5 hw7 c9
          subst hs10
          refine lv_aload_n hx hb dX0_enter_36 rfl (lv_at hl 0 rfl) ?_
          refine x_get hx hb hts hu hown hK hP 2 (by decide) hf15 rfl (v := .ref (xah a)) rfl dX0_enter_37 ?_
          refine lv_iconst (v := 0) hx hb dX0_enter_40 (by decide) ?_
          refine x_aldh hx hb hK hP vp_k0_5 dX0_enter_41 ?_
          refine lv_iconst (v := 0) hx hb dX0_enter_42 (by decide) ?_
          refine x_ldh hx hb hK hP vp_k0_5 vp_k0_24 dX0_enter_43 ?_
          refine lv_if_eq (tgt := 50) hx hb dX0_enter_44 (by decide) (fun c11 => ?_) (fun c11 => ?_)
          · refine lv_aload_n hx hb dX0_enter_50 rfl (lv_at hl 0 rfl) ?_
            refine lv_iconst (v := 1) hx hb dX0_enter_51 (by decide) ?_
            refine lv_iconst (v := 0) hx hb dX0_enter_52 (by decide) ?_
            refine va_calli (va_runV (As := [.int 1, .int 0]) (rest := []) ⟨hx, hb, hml, hown, hts⟩ (c_X0_endsAtLine l D a hO S 1 0 hI vp_k1_5) (cwV 2 hts gX0_enter_X0_endsAtLine rfl rfl rfl hdX0_endsAtLine ⟨Nat.le_of_ble_eq_true rfl, Nat.le_of_ble_eq_true rfl⟩) (xPreV hK hP) rfl rfl hl.1 rfl (lv_room (Nat.le_of_ble_eq_true rfl)) dX0_enter_53 ⟨Nat.zero_le _, Nat.zero_le _⟩) hS (fun q _ h => h) (fun q h => h) (fun r12 S12 t H1 locs ht hvm hw12 hB hz1 hk1 hS => ?_)
            obtain ⟨hP, -⟩ := hB
            rw [ht] at hP
            refine lv_if_eq (tgt := 64) hx hb dX0_enter_56 (by decide) (fun c14 => ?_) (fun c14 => ?_)
            · obtain ⟨hn15, hs15⟩ := xe_endsAtLine hI vp_k1_5 hw12 c14
              subst hs15
              refine lv_iload_n hx hb dX0_enter_64 rfl (lv_at hl 2 rfl) ?_
              refine lv_bipush (v := 8) hx hb dX0_enter_65 (by decide) ?_
              refine lv_aload_n hx hb dX0_enter_67 rfl (lv_at hl 0 rfl) ?_
              refine x_get hx hb hts hu hown hK hP 2 (by decide) hf15 rfl (v := .ref (xah a)) rfl dX0_enter_68 ?_
              refine lv_iconst (v := 1) hx hb dX0_enter_71 (by decide) ?_
              refine x_aldh hx hb hK hP vp_k1_5 dX0_enter_72 ?_
              refine lv_iconst (v := 0) hx hb dX0_enter_73 (by decide) ?_
              refine x_ldh hx hb hK hP vp_k1_5 vp_k0_24 dX0_enter_74 ?_
              refine lv_imul hx hb dX0_enter_75 ?_
              refine lv_icmp_le (tgt := 82) hx hb dX0_enter_76 (by decide) (fun c16 => ?_) (fun c16 => ?_)
              · refine lv_aload_n hx hb dX0_enter_82 rfl (lv_at hl 0 rfl) ?_
                refine lv_iconst (v := 0) hx hb dX0_enter_83 (by decide) ?_
                refine lv_iload_n hx hb dX0_enter_84 rfl (lv_at hl 1 rfl) ?_
                refine lv_iload_n hx hb dX0_enter_85 rfl (lv_at hl 2 rfl) ?_
                refine va_calli (va_runV (As := [.int 0, .int p1, .int p2]) (rest := []) ⟨hx, hb, hml, hown, hts⟩ (c_X0_endsAtArrival l D a hO S 0 p1 p2 hI) (cwV 3 hts gX0_enter_X0_endsAtArrival rfl rfl rfl hdX0_endsAtArrival ⟨Nat.le_of_ble_eq_true rfl, Nat.le_of_ble_eq_true rfl⟩) (xPreV hK hP) rfl rfl hl.1 rfl (lv_room (Nat.le_of_ble_eq_true rfl)) dX0_enter_86 ⟨Nat.zero_le _, Nat.zero_le _⟩) hS (fun q _ h => h) (fun q h => h) (fun r17 S17 t H1 locs ht hvm hw17 hB hz1 hk1 hS => ?_)
                obtain ⟨hP, -⟩ := hB
                rw [ht] at hP
                have hI := xI_endsAtArrival hI hw17
                refine lv_if_eq (tgt := 97) hx hb dX0_enter_89 (by decide) (fun c19 => ?_) (fun c19 => ?_)
                · refine lv_aload_n hx hb dX0_enter_97 rfl (lv_at hl 0 rfl) ?_
                  refine x_get hx hb hts hu hown hK hP 2 (by decide) hf15 rfl (v := .ref (xah a)) rfl dX0_enter_98 ?_
                  refine lv_iconst (v := 4) hx hb dX0_enter_101 (by decide) ?_
                  refine x_aldh hx hb hK hP vp_k4_5 dX0_enter_102 ?_
                  refine lv_iconst (v := 0) hx hb dX0_enter_103 (by decide) ?_
                  refine x_ldh hx hb hK hP vp_k4_5 vp_k0_24 dX0_enter_104 ?_
                  exact W.iret (v := (xh S17 4 0)) hx hb hr (fun t ht hW => ⟨⟨(xh S17 4 0), S17, rfl, (by simp only [xF_enter, hw1, if_neg c2, if_neg c5, if_pos c6, hw7, if_pos c9, if_pos c11, hw12, if_pos c14, if_pos c16, hw17, if_pos c19]), by rw [ht]; exact hP, va_K.moved hW.alike hK⟩, hS.F ht⟩) hS.2.2 dX0_enter_105
                · refine lv_aload_n hx hb dX0_enter_92 rfl (lv_at hl 0 rfl) ?_
                  refine x_get hx hb hts hu hown hK hP 9 (by decide) hf37 rfl (v := .int (xLf S17)) rfl dX0_enter_93 ?_
                  exact W.iret (v := (xLf S17)) hx hb hr (fun t ht hW => ⟨⟨(xLf S17), S17, rfl, (by simp only [xF_enter, hw1, if_neg c2, if_neg c5, if_pos c6, hw7, if_pos c9, if_pos c11, hw12, if_pos c14, if_pos c16, hw17, if_neg c19]), by rw [ht]; exact hP, va_K.moved hW.alike hK⟩, hS.F ht⟩) hS.2.2 dX0_enter_96
              · refine lv_bipush (v := (-3)) hx hb dX0_enter_79 (by decide) ?_
                exact W.iret (v := (-3)) hx hb hr (fun t ht hW => ⟨⟨(-3), S, rfl, (by simp only [xF_enter, hw1, if_neg c2, if_neg c5, if_pos c6, hw7, if_pos c9, if_pos c11, hw12, if_pos c14, if_neg c16]), by rw [ht]; exact hP, va_K.moved hW.alike hK⟩, hS.F ht⟩) hS.2.2 dX0_enter_81
            · refine lv_aload_n hx hb dX0_enter_59 rfl (lv_at hl 0 rfl) ?_
              refine x_get hx hb hts hu hown hK hP 9 (by decide) hf37 rfl (v := .int (xLf S12)) rfl dX0_enter_60 ?_
              exact W.iret (v := (xLf S12)) hx hb hr (fun t ht hW => ⟨⟨(xLf S12), S12, rfl, (by simp only [xF_enter, hw1, if_neg c2, if_neg c5, if_pos c6, hw7, if_pos c9, if_pos c11, hw12, if_neg c14]), by rw [ht]; exact hP, va_K.moved hW.alike hK⟩, hS.F ht⟩) hS.2.2 dX0_enter_63
          · refine lv_bipush (v := (-2)) hx hb dX0_enter_47 (by decide) ?_
            exact W.iret (v := (-2)) hx hb hr (fun t ht hW => ⟨⟨(-2), S, rfl, (by simp only [xF_enter, hw1, if_neg c2, if_neg c5, if_pos c6, hw7, if_pos c9, if_neg c11]), by rw [ht]; exact hP, va_K.moved hW.alike hK⟩, hS.F ht⟩) hS.2.2 dX0_enter_49
        · refine lv_aload_n hx hb dX0_enter_31 rfl (lv_at hl 0 rfl) ?_
          refine x_get hx hb hts hu hown hK hP 9 (by decide) hf37 rfl (v := .int (xLf S7)) rfl dX0_enter_32 ?_
          exact W.iret (v := (xLf S7)) hx hb hr (fun t ht hW => ⟨⟨(xLf S7), S7, rfl, (by simp only [xF_enter, hw1, if_neg c2, if_neg c5, if_pos c6, hw7, if_neg c9]), by rw [ht]; exact hP, va_K.moved hW.alike hK⟩, hS.F ht⟩) hS.2.2 dX0_enter_35
      · refine lv_ldc (v := (-300000)) hx hb hown hk57 dX0_enter_19 ?_
        exact W.iret (v := (-300000)) hx hb hr (fun t ht hW => ⟨⟨(-300000), S, rfl, (by simp only [xF_enter, hw1, if_neg c2, if_neg c5, if_neg c6]), by rw [ht]; exact hP, va_K.moved hW.alike hK⟩, hS.F ht⟩) hS.2.2 dX0_enter_21
def xF_pass (S : XS) (p1 : Int32) : Int32 × XS := (if (xF_isChamber S p1) = 0 then ((-300000), S) else (let q4 := xF_endsAtLine S 3 p1; (if q4.1 = 0 then (if (xh q4.2 3 p1) = 0 then ((-2), q4.2) else (let q9 := xF_endsAtLine q4.2 0 p1; (if q9.1 = 0 then (if (xh q9.2 0 p1) = 0 then ((-3), q9.2) else (if (xF_isLast q9.2 p1) = 0 then (let q17 := xF_goOn q9.2 p1; (q17.1, q17.2)) else (let q20 := xF_goOut q9.2 p1; (q20.1, q20.2)))) else ((xLf q9.2), q9.2)))) else ((xLf q4.2), q4.2))))
theorem hdX0_pass : yX0_pass.cls = RX0 ∧ yX0_pass.cls ≠ "java/lang/invoke/MethodHandle" ∧ yX0_pass.cls ≠ "java/lang/invoke/VarHandle" ∧ (parseMethodDescriptor yX0_pass.desc).map (fun d => d.parameters.length) = some 1 := by decide +kernel
set_option maxHeartbeats 4000000 in
set_option maxRecDepth 100000 in
theorem c_X0_pass (l : Launch) (D : va_G) (a : XA) (hO : xOk a) (S : XS) (p1 : Int32) (hI : xI S) : Met l yX0_pass wsX0_pass ({ frames := 6, cells := 0, slots := 0, locals := 131 }) (va_Pc [.ref (xa a), .int p1] (xB D a S)) (xQi D a (xF_pass S p1)) 0 0 (xA a) := by
  refine Met.ofW (cc := cX0_pass) (maxL := 2) (ret := (some .int)) (by decide) rfl ?_
  intro p e s m args below meth c s₁ B hml hv
  obtain ⟨rfl, hP, hK⟩ := hv
  have hx := B.exec
  have hb := B.bytes
  have hr := B.returns
  have hts := atoms_spec (ws := wsX0_pass) B.pre
  have hown : s.vm.findClass RX0 = some m.cls := findClass_of_methodNamed B.named
  have hlocks := B.notSynchronized
  have hS : va_S (xA a) s.heap s.heap [] := va_S.rf
  have hP : va_P D vwCl (xW a S) s.heap := hP
  have hu : ∀ w ∈ wsX00, w ∈ wsX0_pass := fun _ h => List.mem_cons_of_mem _ (List.mem_append_right _ h)
  have hf15 := hts (.fieldLink RX0 15 "FlightBooks" "held" "[[I") (by decide +kernel)
  have hf37 := hts (.fieldLink RX0 37 "FlightBooks" "latestFault" "I") (by decide +kernel)
  have hk57 := hts (.constant RX0 57 (-300000)) (by decide +kernel)
  have hl := lv_entry ([.ref (xa a), .int p1]) (n := 2) (Nat.le_of_ble_eq_true rfl)
  rw [lg_entry_eq]
  generalize (lg_sl ([.ref (xa a), .int p1]) ++ List.replicate (2 - (lg_sl ([.ref (xa a), .int p1])).length) Slot.unset).toArray = ls at hl ⊢
  have hl : lv_has ls 2 [(0, .ref (xa a)), (1, .int p1)] := hl
  refine lv_aload_n hx hb dX0_pass_0 rfl (lv_at hl 0 rfl) ?_
  refine lv_iload_n hx hb dX0_pass_1 rfl (lv_at hl 1 rfl) ?_
  refine va_calli (va_runV (As := [.int p1]) (rest := []) ⟨hx, hb, hml, hown, hts⟩ (c_X0_isChamber l D a hO S p1) (cwV 1 hts gX0_pass_X0_isChamber rfl rfl rfl hdX0_isChamber ⟨Nat.le_of_ble_eq_true rfl, Nat.le_of_ble_eq_true rfl⟩) (xPreV hK hP) rfl rfl hl.1 rfl (lv_room (Nat.le_of_ble_eq_true rfl)) dX0_pass_2 ⟨Nat.zero_le _, Nat.zero_le _⟩) hS (fun q _ h => h) (fun q h => h) (fun r1 S1 t H1 locs ht hvm hw1 hB hz1 hk1 hS => ?_)
  obtain ⟨hP, -⟩ := hB
  rw [ht] at hP
  obtain ⟨hw1, hSe1⟩ := hw1
  rw [hSe1] at hP
  refine lv_if_ne (tgt := 11) hx hb dX0_pass_5 (by decide) (fun c2 => ?_) (fun c2 => ?_)
  · have hn3 := xe_cham hI hw1 c2
    refine lv_aload_n hx hb dX0_pass_11 rfl (lv_at hl 0 rfl) ?_
    refine lv_iconst (v := 3) hx hb dX0_pass_12 (by decide) ?_
    refine lv_iload_n hx hb dX0_pass_13 rfl (lv_at hl 1 rfl) ?_
    refine va_calli (va_runV (As := [.int 3, .int p1]) (rest := []) ⟨hx, hb, hml, hown, hts⟩ (c_X0_endsAtLine l D a hO S 3 p1 hI vp_k3_5) (cwV 2 hts gX0_pass_X0_endsAtLine rfl rfl rfl hdX0_endsAtLine ⟨Nat.le_of_ble_eq_true rfl, Nat.le_of_ble_eq_true rfl⟩) (xPreV hK hP) rfl rfl hl.1 rfl (lv_room (Nat.le_of_ble_eq_true rfl)) dX0_pass_14 ⟨Nat.zero_le _, Nat.zero_le _⟩) hS (fun q _ h => h) (fun q h => h) (fun r4 S4 t H1 locs ht hvm hw4 hB hz1 hk1 hS => ?_)
    obtain ⟨hP, -⟩ := hB
    rw [ht] at hP
    refine lv_if_eq (tgt := 25) hx hb dX0_pass_17 (by decide) (fun c6 => ?_) (fun c6 => ?_)
    · obtain ⟨hn7, hs7⟩ := xe_endsAtLine hI vp_k3_5 hw4 c6
      subst hs7
      refine lv_aload_n hx hb dX0_pass_25 rfl (lv_at hl 0 rfl) ?_
      refine x_get hx hb hts hu hown hK hP 2 (by decide) hf15 rfl (v := .ref (xah a)) rfl dX0_pass_26 ?_
      refine lv_iconst (v := 3) hx hb dX0_pass_29 (by decide) ?_
      refine x_aldh hx hb hK hP vp_k3_5 dX0_pass_30 ?_
      refine lv_iload_n hx hb dX0_pass_31 rfl (lv_at hl 1 rfl) ?_
      refine x_ldh hx hb hK hP vp_k3_5 hn7 dX0_pass_32 ?_
      refine lv_if_ne (tgt := 39) hx hb dX0_pass_33 (by decide) (fun c8 => ?_) (fun c8 => ?_)
      · refine lv_aload_n hx hb dX0_pass_39 rfl (lv_at hl 0 rfl) ?_
        refine lv_iconst (v := 0) hx hb dX0_pass_40 (by decide) ?_
        refine lv_iload_n hx hb dX0_pass_41 rfl (lv_at hl 1 rfl) ?_
        refine va_calli (va_runV (As := [.int 0, .int p1]) (rest := []) ⟨hx, hb, hml, hown, hts⟩ (c_X0_endsAtLine l D a hO S 0 p1 hI vp_k0_5) (cwV 2 hts gX0_pass_X0_endsAtLine rfl rfl rfl hdX0_endsAtLine ⟨Nat.le_of_ble_eq_true rfl, Nat.le_of_ble_eq_true rfl⟩) (xPreV hK hP) rfl rfl hl.1 rfl (lv_room (Nat.le_of_ble_eq_true rfl)) dX0_pass_42 ⟨Nat.zero_le _, Nat.zero_le _⟩) hS (fun q _ h => h) (fun q h => h) (fun r9 S9 t H1 locs ht hvm hw9 hB hz1 hk1 hS => ?_)
        obtain ⟨hP, -⟩ := hB
        rw [ht] at hP
        refine lv_if_eq (tgt := 53) hx hb dX0_pass_45 (by decide) (fun c11 => ?_) (fun c11 => ?_)
        · obtain ⟨hn12, hs12⟩ := xe_endsAtLine hI vp_k0_5 hw9 c11
          subst hs12
          refine lv_aload_n hx hb dX0_pass_53 rfl (lv_at hl 0 rfl) ?_
          refine x_get hx hb hts hu hown hK hP 2 (by decide) hf15 rfl (v := .ref (xah a)) rfl dX0_pass_54 ?_
          refine lv_iconst (v := 0) hx hb dX0_pass_57 (by decide) ?_
          refine x_aldh hx hb hK hP vp_k0_5 dX0_pass_58 ?_
          refine lv_iload_n hx hb dX0_pass_59 rfl (lv_at hl 1 rfl) ?_
          refine x_ldh hx hb hK hP vp_k0_5 hn12 dX0_pass_60 ?_
          refine lv_if_ne (tgt := 67) hx hb dX0_pass_61 (by decide) (fun c13 => ?_) (fun c13 => ?_)
          · refine lv_aload_n hx hb dX0_pass_67 rfl (lv_at hl 0 rfl) ?_
            refine lv_iload_n hx hb dX0_pass_68 rfl (lv_at hl 1 rfl) ?_
            refine va_calli (va_runV (As := [.int p1]) (rest := []) ⟨hx, hb, hml, hown, hts⟩ (c_X0_isLast l D a hO S p1) (cwV 1 hts gX0_pass_X0_isLast rfl rfl rfl hdX0_isLast ⟨Nat.le_of_ble_eq_true rfl, Nat.le_of_ble_eq_true rfl⟩) (xPreV hK hP) rfl rfl hl.1 rfl (lv_room (Nat.le_of_ble_eq_true rfl)) dX0_pass_69 ⟨Nat.zero_le _, Nat.zero_le _⟩) hS (fun q _ h => h) (fun q h => h) (fun r14 S14 t H1 locs ht hvm hw14 hB hz1 hk1 hS => ?_)
            obtain ⟨hP, -⟩ := hB
            rw [ht] at hP
            obtain ⟨hw14, hSe14⟩ := hw14
            rw [hSe14] at hP
            refine lv_if_eq (tgt := 83) hx hb dX0_pass_72 (by decide) (fun c15 => ?_) (fun c15 => ?_)
            · refine lv_aload_n hx hb dX0_pass_83 rfl (lv_at hl 0 rfl) ?_
              refine lv_iload_n hx hb dX0_pass_84 rfl (lv_at hl 1 rfl) ?_
              refine va_calli (va_runV (As := [.int p1]) (rest := []) ⟨hx, hb, hml, hown, hts⟩ (c_X0_goOn l D a hO S p1 hI hn12) (cwV 1 hts gX0_pass_X0_goOn rfl rfl rfl hdX0_goOn ⟨Nat.le_of_ble_eq_true rfl, Nat.le_of_ble_eq_true rfl⟩) (xPreV hK hP) rfl rfl hl.1 rfl (lv_room (Nat.le_of_ble_eq_true rfl)) dX0_pass_85 ⟨Nat.zero_le _, Nat.zero_le _⟩) hS (fun q _ h => h) (fun q h => h) (fun r17 S17 t H1 locs ht hvm hw17 hB hz1 hk1 hS => ?_)
              obtain ⟨hP, -⟩ := hB
              rw [ht] at hP
              exact W.iret (v := r17) hx hb hr (fun t ht hW => ⟨⟨r17, S17, rfl, (by simp only [xF_pass, hw1, if_neg c2, hw4, if_pos c6, if_neg c8, hw9, if_pos c11, if_neg c13, hw14, if_pos c15, hw17]), by rw [ht]; exact hP, va_K.moved hW.alike hK⟩, hS.F ht⟩) hS.2.2 dX0_pass_88
            · refine lv_aload_n hx hb dX0_pass_75 rfl (lv_at hl 0 rfl) ?_
              refine lv_iload_n hx hb dX0_pass_76 rfl (lv_at hl 1 rfl) ?_
              refine va_calli (va_runV (As := [.int p1]) (rest := []) ⟨hx, hb, hml, hown, hts⟩ (c_X0_goOut l D a hO S p1 hI) (cwV 1 hts gX0_pass_X0_goOut rfl rfl rfl hdX0_goOut ⟨Nat.le_of_ble_eq_true rfl, Nat.le_of_ble_eq_true rfl⟩) (xPreV hK hP) rfl rfl hl.1 rfl (lv_room (Nat.le_of_ble_eq_true rfl)) dX0_pass_77 ⟨Nat.zero_le _, Nat.zero_le _⟩) hS (fun q _ h => h) (fun q h => h) (fun r20 S20 t H1 locs ht hvm hw20 hB hz1 hk1 hS => ?_)
              obtain ⟨hP, -⟩ := hB
              rw [ht] at hP
              refine lv_goto (tgt := 88) hx hb dX0_pass_80 (by decide) ?_
              exact W.iret (v := r20) hx hb hr (fun t ht hW => ⟨⟨r20, S20, rfl, (by simp only [xF_pass, hw1, if_neg c2, hw4, if_pos c6, if_neg c8, hw9, if_pos c11, if_neg c13, hw14, if_neg c15, hw20]), by rw [ht]; exact hP, va_K.moved hW.alike hK⟩, hS.F ht⟩) hS.2.2 dX0_pass_88
          · refine lv_bipush (v := (-3)) hx hb dX0_pass_64 (by decide) ?_
            exact W.iret (v := (-3)) hx hb hr (fun t ht hW => ⟨⟨(-3), S, rfl, (by simp only [xF_pass, hw1, if_neg c2, hw4, if_pos c6, if_neg c8, hw9, if_pos c11, if_pos c13]), by rw [ht]; exact hP, va_K.moved hW.alike hK⟩, hS.F ht⟩) hS.2.2 dX0_pass_66
        · refine lv_aload_n hx hb dX0_pass_48 rfl (lv_at hl 0 rfl) ?_
          refine x_get hx hb hts hu hown hK hP 9 (by decide) hf37 rfl (v := .int (xLf S9)) rfl dX0_pass_49 ?_
          exact W.iret (v := (xLf S9)) hx hb hr (fun t ht hW => ⟨⟨(xLf S9), S9, rfl, (by simp only [xF_pass, hw1, if_neg c2, hw4, if_pos c6, if_neg c8, hw9, if_neg c11]), by rw [ht]; exact hP, va_K.moved hW.alike hK⟩, hS.F ht⟩) hS.2.2 dX0_pass_52
      · refine lv_bipush (v := (-2)) hx hb dX0_pass_36 (by decide) ?_
        exact W.iret (v := (-2)) hx hb hr (fun t ht hW => ⟨⟨(-2), S, rfl, (by simp only [xF_pass, hw1, if_neg c2, hw4, if_pos c6, if_pos c8]), by rw [ht]; exact hP, va_K.moved hW.alike hK⟩, hS.F ht⟩) hS.2.2 dX0_pass_38
    · refine lv_aload_n hx hb dX0_pass_20 rfl (lv_at hl 0 rfl) ?_
      refine x_get hx hb hts hu hown hK hP 9 (by decide) hf37 rfl (v := .int (xLf S4)) rfl dX0_pass_21 ?_
      exact W.iret (v := (xLf S4)) hx hb hr (fun t ht hW => ⟨⟨(xLf S4), S4, rfl, (by simp only [xF_pass, hw1, if_neg c2, hw4, if_neg c6]), by rw [ht]; exact hP, va_K.moved hW.alike hK⟩, hS.F ht⟩) hS.2.2 dX0_pass_24
  · refine lv_ldc (v := (-300000)) hx hb hown hk57 dX0_pass_8 ?_
    exact W.iret (v := (-300000)) hx hb hr (fun t ht hW => ⟨⟨(-300000), S, rfl, (by simp only [xF_pass, hw1, if_pos c2]), by rw [ht]; exact hP, va_K.moved hW.alike hK⟩, hS.F ht⟩) hS.2.2 dX0_pass_10
end
section
def xF_note (S : XS) (p1 p2 p3 p4 : Int32) : Int32 × XS := (if (xF_isBook p1) = 0 then ((-300000), S) else (let q4 := xF_endsAtLine S p1 p2; (if q4.1 = 0 then (let q9 := xF_endsAtPlace q4.2 p3 p4; (if q9.1 = 0 then (0, (xsp q9.2 p3 p4 (xh q9.2 p1 p2))) else ((xLf q9.2), q9.2))) else ((xLf q4.2), q4.2))))
theorem hdX0_note : yX0_note.cls = RX0 ∧ yX0_note.cls ≠ "java/lang/invoke/MethodHandle" ∧ yX0_note.cls ≠ "java/lang/invoke/VarHandle" ∧ (parseMethodDescriptor yX0_note.desc).map (fun d => d.parameters.length) = some 4 := by decide +kernel
set_option maxHeartbeats 4000000 in
set_option maxRecDepth 100000 in
theorem c_X0_note (l : Launch) (D : va_G) (a : XA) (hO : xOk a) (S : XS) (p1 p2 p3 p4 : Int32) (hI : xI S) : Met l yX0_note wsX0_note ({ frames := 3, cells := 0, slots := 0, locals := 64 }) (va_Pc [.ref (xa a), .int p1, .int p2, .int p3, .int p4] (xB D a S)) (xQi D a (xF_note S p1 p2 p3 p4)) 0 0 (xA a) := by
  refine Met.ofW (cc := cX0_note) (maxL := 5) (ret := (some .int)) (by decide) rfl ?_
  intro p e s m args below meth c s₁ B hml hv
  obtain ⟨rfl, hP, hK⟩ := hv
  have hx := B.exec
  have hb := B.bytes
  have hr := B.returns
  have hts := atoms_spec (ws := wsX0_note) B.pre
  have hown : s.vm.findClass RX0 = some m.cls := findClass_of_methodNamed B.named
  have hlocks := B.notSynchronized
  have hS : va_S (xA a) s.heap s.heap [] := va_S.rf
  have hP : va_P D vwCl (xW a S) s.heap := hP
  have hu : ∀ w ∈ wsX00, w ∈ wsX0_note := fun _ h => List.mem_cons_of_mem _ (List.mem_append_right _ h)
  have hf37 := hts (.fieldLink RX0 37 "FlightBooks" "latestFault" "I") (by decide +kernel)
  have hf18 := hts (.fieldLink RX0 18 "FlightBooks" "places" "[[I") (by decide +kernel)
  have hf15 := hts (.fieldLink RX0 15 "FlightBooks" "held" "[[I") (by decide +kernel)
  have hk57 := hts (.constant RX0 57 (-300000)) (by decide +kernel)
  have hl := lv_entry ([.ref (xa a), .int p1, .int p2, .int p3, .int p4]) (n := 5) (Nat.le_of_ble_eq_true rfl)
  rw [lg_entry_eq]
  generalize (lg_sl ([.ref (xa a), .int p1, .int p2, .int p3, .int p4]) ++ List.replicate (5 - (lg_sl ([.ref (xa a), .int p1, .int p2, .int p3, .int p4])).length) Slot.unset).toArray = ls at hl ⊢
  have hl : lv_has ls 5 [(0, .ref (xa a)), (1, .int p1), (2, .int p2), (3, .int p3), (4, .int p4)] := hl
  refine lv_iload_n hx hb dX0_note_0 rfl (lv_at hl 1 rfl) ?_
  refine va_calli (va_runS (As := [.int p1]) (rest := []) ⟨hx, hb, hml, hown, hts⟩ (c_X0_isBook l p1) (va_cwS 1 hts gX0_note_X0_isBook rfl rfl rfl hdX0_isBook ⟨Nat.le_of_ble_eq_true rfl, Nat.le_of_ble_eq_true rfl⟩) pPreS rfl rfl hl.1 rfl (lv_room (Nat.le_of_ble_eq_true rfl)) dX0_note_1 ⟨Nat.zero_le _, Nat.zero_le _⟩) hS (fun q _ h => h.elim) (fun q h => h.elim) (fun r1 u1 t H1 locs ht hvm hw1 hB hz1 hk1 hS => ?_)
  have hP := P_kept hP hk1
  refine lv_if_ne (tgt := 10) hx hb dX0_note_4 (by decide) (fun c2 => ?_) (fun c2 => ?_)
  · have hn3 := xe_book hw1 c2
    refine lv_aload_n hx hb dX0_note_10 rfl (lv_at hl 0 rfl) ?_
    refine lv_iload_n hx hb dX0_note_11 rfl (lv_at hl 1 rfl) ?_
    refine lv_iload_n hx hb dX0_note_12 rfl (lv_at hl 2 rfl) ?_
    refine va_calli (va_runV (As := [.int p1, .int p2]) (rest := []) ⟨hx, hb, hml, hown, hts⟩ (c_X0_endsAtLine l D a hO S p1 p2 hI hn3) (cwV 2 hts gX0_note_X0_endsAtLine rfl rfl rfl hdX0_endsAtLine ⟨Nat.le_of_ble_eq_true rfl, Nat.le_of_ble_eq_true rfl⟩) (xPreV hK hP) rfl rfl hl.1 rfl (lv_room (Nat.le_of_ble_eq_true rfl)) dX0_note_13 ⟨Nat.zero_le _, Nat.zero_le _⟩) hS (fun q _ h => h) (fun q h => h) (fun r4 S4 t H1 locs ht hvm hw4 hB hz1 hk1 hS => ?_)
    obtain ⟨hP, -⟩ := hB
    rw [ht] at hP
    refine lv_if_ne (tgt := 29) hx hb dX0_note_16 (by decide) (fun c6 => ?_) (fun c6 => ?_)
    · refine lv_aload_n hx hb dX0_note_29 rfl (lv_at hl 0 rfl) ?_
      refine x_get hx hb hts hu hown hK hP 9 (by decide) hf37 rfl (v := .int (xLf S4)) rfl dX0_note_30 ?_
      exact W.iret (v := (xLf S4)) hx hb hr (fun t ht hW => ⟨⟨(xLf S4), S4, rfl, (by simp only [xF_note, hw1, if_neg c2, hw4, if_neg c6]), by rw [ht]; exact hP, va_K.moved hW.alike hK⟩, hS.F ht⟩) hS.2.2 dX0_note_33
    · obtain ⟨hn8, hs8⟩ := xe_endsAtLine hI hn3 hw4 c6
      subst hs8
      refine lv_aload_n hx hb dX0_note_19 rfl (lv_at hl 0 rfl) ?_
      refine lv_iload_n hx hb dX0_note_20 rfl (lv_at hl 3 rfl) ?_
      refine lv_iload hx hb dX0_note_21 (lv_at hl 4 rfl) ?_
      refine va_calli (va_runV (As := [.int p3, .int p4]) (rest := []) ⟨hx, hb, hml, hown, hts⟩ (c_X0_endsAtPlace l D a hO S p3 p4 hI) (cwV 2 hts gX0_note_X0_endsAtPlace rfl rfl rfl hdX0_endsAtPlace ⟨Nat.le_of_ble_eq_true rfl, Nat.le_of_ble_eq_true rfl⟩) (xPreV hK hP) rfl rfl hl.1 rfl (lv_room (Nat.le_of_ble_eq_true rfl)) dX0_note_23 ⟨Nat.zero_le _, Nat.zero_le _⟩) hS (fun q _ h => h) (fun q h => h) (fun r9 S9 t H1 locs ht hvm hw9 hB hz1 hk1 hS => ?_)
      obtain ⟨hP, -⟩ := hB
      rw [ht] at hP
      refine lv_if_eq (tgt := 34) hx hb dX0_note_26 (by decide) (fun c11 => ?_) (fun c11 => ?_)
      · obtain ⟨hn12, hm12, hs12⟩ := xe_endsAtPlace hI hw9 c11
        subst hs12
        refine lv_aload_n hx hb dX0_note_34 rfl (lv_at hl 0 rfl) ?_
        refine x_get hx hb hts hu hown hK hP 3 (by decide) hf18 rfl (v := .ref (xap a)) rfl dX0_note_35 ?_
        refine lv_iload_n hx hb dX0_note_38 rfl (lv_at hl 3 rfl) ?_
        refine x_aldp hx hb hK hP hn12 dX0_note_39 ?_
        refine lv_iload hx hb dX0_note_40 (lv_at hl 4 rfl) ?_
        refine lv_aload_n hx hb dX0_note_42 rfl (lv_at hl 0 rfl) ?_
        refine x_get hx hb hts hu hown hK hP 2 (by decide) hf15 rfl (v := .ref (xah a)) rfl dX0_note_43 ?_
        refine lv_iload_n hx hb dX0_note_46 rfl (lv_at hl 1 rfl) ?_
        refine x_aldh hx hb hK hP hn3 dX0_note_47 ?_
        refine lv_iload_n hx hb dX0_note_48 rfl (lv_at hl 2 rfl) ?_
        refine x_ldh hx hb hK hP hn3 hn8 dX0_note_49 ?_
        refine x_stp hx hb hO hK hP hS hn12 hm12 dX0_note_50 (fun H locs hP hS => ?_)
        refine lv_iconst (v := 0) hx hb dX0_note_51 (by decide) ?_
        exact W.iret (v := 0) hx hb hr (fun t ht hW => ⟨⟨0, (xsp S p3 p4 (xh S p1 p2)), rfl, (by simp only [xF_note, hw1, if_neg c2, hw4, if_pos c6, hw9, if_pos c11]), by rw [ht]; exact hP, va_K.moved hW.alike hK⟩, hS.F ht⟩) hS.2.2 dX0_note_52
      · refine lv_aload_n hx hb dX0_note_29 rfl (lv_at hl 0 rfl) ?_
        refine x_get hx hb hts hu hown hK hP 9 (by decide) hf37 rfl (v := .int (xLf S9)) rfl dX0_note_30 ?_
        exact W.iret (v := (xLf S9)) hx hb hr (fun t ht hW => ⟨⟨(xLf S9), S9, rfl, (by simp only [xF_note, hw1, if_neg c2, hw4, if_pos c6, hw9, if_neg c11]), by rw [ht]; exact hP, va_K.moved hW.alike hK⟩, hS.F ht⟩) hS.2.2 dX0_note_33
  · refine lv_ldc (v := (-300000)) hx hb hown hk57 dX0_note_7 ?_
    exact W.iret (v := (-300000)) hx hb hr (fun t ht hW => ⟨⟨(-300000), S, rfl, (by simp only [xF_note, hw1, if_pos c2]), by rw [ht]; exact hP, va_K.moved hW.alike hK⟩, hS.F ht⟩) hS.2.2 dX0_note_9
def xF_chart (S : XS) (p1 p2 : Int32) : Int32 × XS := (let q1 := xF_endsAtPlace S p1 p2; (if q1.1 = 0 then ((xp q1.2 p1 p2), q1.2) else ((xLf q1.2), q1.2)))
theorem hdX0_chart : yX0_chart.cls = RX0 ∧ yX0_chart.cls ≠ "java/lang/invoke/MethodHandle" ∧ yX0_chart.cls ≠ "java/lang/invoke/VarHandle" ∧ (parseMethodDescriptor yX0_chart.desc).map (fun d => d.parameters.length) = some 2 := by decide +kernel
set_option maxHeartbeats 4000000 in
set_option maxRecDepth 100000 in
theorem c_X0_chart (l : Launch) (D : va_G) (a : XA) (hO : xOk a) (S : XS) (p1 p2 : Int32) (hI : xI S) : Met l yX0_chart wsX0_chart ({ frames := 3, cells := 0, slots := 0, locals := 64 }) (va_Pc [.ref (xa a), .int p1, .int p2] (xB D a S)) (xQi D a (xF_chart S p1 p2)) 0 0 (xA a) := by
  refine Met.ofW (cc := cX0_chart) (maxL := 3) (ret := (some .int)) (by decide) rfl ?_
  intro p e s m args below meth c s₁ B hml hv
  obtain ⟨rfl, hP, hK⟩ := hv
  have hx := B.exec
  have hb := B.bytes
  have hr := B.returns
  have hts := atoms_spec (ws := wsX0_chart) B.pre
  have hown : s.vm.findClass RX0 = some m.cls := findClass_of_methodNamed B.named
  have hlocks := B.notSynchronized
  have hS : va_S (xA a) s.heap s.heap [] := va_S.rf
  have hP : va_P D vwCl (xW a S) s.heap := hP
  have hu : ∀ w ∈ wsX00, w ∈ wsX0_chart := fun _ h => List.mem_cons_of_mem _ (List.mem_append_right _ h)
  have hf18 := hts (.fieldLink RX0 18 "FlightBooks" "places" "[[I") (by decide +kernel)
  have hf37 := hts (.fieldLink RX0 37 "FlightBooks" "latestFault" "I") (by decide +kernel)
  have hl := lv_entry ([.ref (xa a), .int p1, .int p2]) (n := 3) (Nat.le_of_ble_eq_true rfl)
  rw [lg_entry_eq]
  generalize (lg_sl ([.ref (xa a), .int p1, .int p2]) ++ List.replicate (3 - (lg_sl ([.ref (xa a), .int p1, .int p2])).length) Slot.unset).toArray = ls at hl ⊢
  have hl : lv_has ls 3 [(0, .ref (xa a)), (1, .int p1), (2, .int p2)] := hl
  refine lv_aload_n hx hb dX0_chart_0 rfl (lv_at hl 0 rfl) ?_
  refine lv_iload_n hx hb dX0_chart_1 rfl (lv_at hl 1 rfl) ?_
  refine lv_iload_n hx hb dX0_chart_2 rfl (lv_at hl 2 rfl) ?_
  refine va_calli (va_runV (As := [.int p1, .int p2]) (rest := []) ⟨hx, hb, hml, hown, hts⟩ (c_X0_endsAtPlace l D a hO S p1 p2 hI) (cwV 2 hts gX0_chart_X0_endsAtPlace rfl rfl rfl hdX0_endsAtPlace ⟨Nat.le_of_ble_eq_true rfl, Nat.le_of_ble_eq_true rfl⟩) (xPreV hK hP) rfl rfl hl.1 rfl (lv_room (Nat.le_of_ble_eq_true rfl)) dX0_chart_3 ⟨Nat.zero_le _, Nat.zero_le _⟩) hS (fun q _ h => h) (fun q h => h) (fun r1 S1 t H1 locs ht hvm hw1 hB hz1 hk1 hS => ?_)
  obtain ⟨hP, -⟩ := hB
  rw [ht] at hP
  refine lv_if_eq (tgt := 14) hx hb dX0_chart_6 (by decide) (fun c3 => ?_) (fun c3 => ?_)
  · obtain ⟨hn4, hm4, hs4⟩ := xe_endsAtPlace hI hw1 c3
    subst hs4
    refine lv_aload_n hx hb dX0_chart_14 rfl (lv_at hl 0 rfl) ?_
    refine x_get hx hb hts hu hown hK hP 3 (by decide) hf18 rfl (v := .ref (xap a)) rfl dX0_chart_15 ?_
    refine lv_iload_n hx hb dX0_chart_18 rfl (lv_at hl 1 rfl) ?_
    refine x_aldp hx hb hK hP hn4 dX0_chart_19 ?_
    refine lv_iload_n hx hb dX0_chart_20 rfl (lv_at hl 2 rfl) ?_
    refine x_ldp hx hb hK hP hn4 hm4 dX0_chart_21 ?_
    exact W.iret (v := (xp S p1 p2)) hx hb hr (fun t ht hW => ⟨⟨(xp S p1 p2), S, rfl, (by simp only [xF_chart, hw1, if_pos c3]), by rw [ht]; exact hP, va_K.moved hW.alike hK⟩, hS.F ht⟩) hS.2.2 dX0_chart_22
  · refine lv_aload_n hx hb dX0_chart_9 rfl (lv_at hl 0 rfl) ?_
    refine x_get hx hb hts hu hown hK hP 9 (by decide) hf37 rfl (v := .int (xLf S1)) rfl dX0_chart_10 ?_
    exact W.iret (v := (xLf S1)) hx hb hr (fun t ht hW => ⟨⟨(xLf S1), S1, rfl, (by simp only [xF_chart, hw1, if_neg c3]), by rw [ht]; exact hP, va_K.moved hW.alike hK⟩, hS.F ht⟩) hS.2.2 dX0_chart_13
def xF_columns (S : XS) (p1 : Int32) : Int32 × XS := (let q1 := xF_endsAtRow S p1; (if q1.1 = 0 then ((xCc q1.2), q1.2) else ((xLf q1.2), q1.2)))
theorem hdX0_columns : yX0_columns.cls = RX0 ∧ yX0_columns.cls ≠ "java/lang/invoke/MethodHandle" ∧ yX0_columns.cls ≠ "java/lang/invoke/VarHandle" ∧ (parseMethodDescriptor yX0_columns.desc).map (fun d => d.parameters.length) = some 1 := by decide +kernel
set_option maxHeartbeats 4000000 in
set_option maxRecDepth 100000 in
theorem c_X0_columns (l : Launch) (D : va_G) (a : XA) (hO : xOk a) (S : XS) (p1 : Int32) (hI : xI S) : Met l yX0_columns wsX0_columns ({ frames := 2, cells := 0, slots := 0, locals := 42 }) (va_Pc [.ref (xa a), .int p1] (xB D a S)) (xQi D a (xF_columns S p1)) 0 0 (xA a) := by
  refine Met.ofW (cc := cX0_columns) (maxL := 2) (ret := (some .int)) (by decide) rfl ?_
  intro p e s m args below meth c s₁ B hml hv
  obtain ⟨rfl, hP, hK⟩ := hv
  have hx := B.exec
  have hb := B.bytes
  have hr := B.returns
  have hts := atoms_spec (ws := wsX0_columns) B.pre
  have hown : s.vm.findClass RX0 = some m.cls := findClass_of_methodNamed B.named
  have hlocks := B.notSynchronized
  have hS : va_S (xA a) s.heap s.heap [] := va_S.rf
  have hP : va_P D vwCl (xW a S) s.heap := hP
  have hu : ∀ w ∈ wsX00, w ∈ wsX0_columns := fun _ h => List.mem_cons_of_mem _ (List.mem_append_right _ h)
  have hf25 := hts (.fieldLink RX0 25 "FlightBooks" "columnCount" "I") (by decide +kernel)
  have hf37 := hts (.fieldLink RX0 37 "FlightBooks" "latestFault" "I") (by decide +kernel)
  have hl := lv_entry ([.ref (xa a), .int p1]) (n := 2) (Nat.le_of_ble_eq_true rfl)
  rw [lg_entry_eq]
  generalize (lg_sl ([.ref (xa a), .int p1]) ++ List.replicate (2 - (lg_sl ([.ref (xa a), .int p1])).length) Slot.unset).toArray = ls at hl ⊢
  have hl : lv_has ls 2 [(0, .ref (xa a)), (1, .int p1)] := hl
  refine lv_aload_n hx hb dX0_columns_0 rfl (lv_at hl 0 rfl) ?_
  refine lv_iload_n hx hb dX0_columns_1 rfl (lv_at hl 1 rfl) ?_
  refine va_calli (va_runV (As := [.int p1]) (rest := []) ⟨hx, hb, hml, hown, hts⟩ (c_X0_endsAtRow l D a hO S p1) (cwV 1 hts gX0_columns_X0_endsAtRow rfl rfl rfl hdX0_endsAtRow ⟨Nat.le_of_ble_eq_true rfl, Nat.le_of_ble_eq_true rfl⟩) (xPreV hK hP) rfl rfl hl.1 rfl (lv_room (Nat.le_of_ble_eq_true rfl)) dX0_columns_2 ⟨Nat.zero_le _, Nat.zero_le _⟩) hS (fun q _ h => h) (fun q h => h) (fun r1 S1 t H1 locs ht hvm hw1 hB hz1 hk1 hS => ?_)
  obtain ⟨hP, -⟩ := hB
  rw [ht] at hP
  refine lv_if_eq (tgt := 13) hx hb dX0_columns_5 (by decide) (fun c3 => ?_) (fun c3 => ?_)
  · obtain ⟨hn4, hs4⟩ := xe_endsAtRow hI hw1 c3
    subst hs4
    refine lv_aload_n hx hb dX0_columns_13 rfl (lv_at hl 0 rfl) ?_
    refine x_get hx hb hts hu hown hK hP 5 (by decide) hf25 rfl (v := .int (xCc S)) rfl dX0_columns_14 ?_
    exact W.iret (v := (xCc S)) hx hb hr (fun t ht hW => ⟨⟨(xCc S), S, rfl, (by simp only [xF_columns, hw1, if_pos c3]), by rw [ht]; exact hP, va_K.moved hW.alike hK⟩, hS.F ht⟩) hS.2.2 dX0_columns_17
  · refine lv_aload_n hx hb dX0_columns_8 rfl (lv_at hl 0 rfl) ?_
    refine x_get hx hb hts hu hown hK hP 9 (by decide) hf37 rfl (v := .int (xLf S1)) rfl dX0_columns_9 ?_
    exact W.iret (v := (xLf S1)) hx hb hr (fun t ht hW => ⟨⟨(xLf S1), S1, rfl, (by simp only [xF_columns, hw1, if_neg c3]), by rw [ht]; exact hP, va_K.moved hW.alike hK⟩, hS.F ht⟩) hS.2.2 dX0_columns_12
end
section
theorem xl_in {n i : Int32} {k N : Nat} (hN : N < 2 ^ 31) (hk : k ≤ N) (ei : i = nI k) (hn : n.toInt ≤ (N : Int)) (c : ¬ n ≤ i) : vp_in i N ∧ k < N := by
  rw [Int32.le_iff_toInt_le, ei, nI_toInt (by omega)] at c
  have h : k < N := by omega
  exact ⟨by rw [ei]; exact vp_in_nI h hN, h⟩
/-- tally's loop: what comes behind it, with n rounds left -/
def xF_tallyL (S : XS) (p1 : Int32) : Nat → Int32 → Int32 → Int32
  | 0, _, z => z
  | n + 1, i, z => if xc S p1 ≤ i then z else xF_tallyL S p1 n (i + 1) (z + xh S p1 i)
def xF_tally (S : XS) (p1 : Int32) : Int32 × XS := (if (xF_isBook p1) = 0 then ((-300000), S) else (let q4 := xF_endsAtBook S p1; (if q4.1 = 0 then (xF_tallyL q4.2 p1 25 0 0, q4.2) else ((xLf q4.2), q4.2))))
theorem hdX0_tally : yX0_tally.cls = RX0 ∧ yX0_tally.cls ≠ "java/lang/invoke/MethodHandle" ∧ yX0_tally.cls ≠ "java/lang/invoke/VarHandle" ∧ (parseMethodDescriptor yX0_tally.desc).map (fun d => d.parameters.length) = some 1 := by decide +kernel
set_option maxHeartbeats 4000000 in
set_option maxRecDepth 100000 in
theorem c_X0_tally (l : Launch) (D : va_G) (a : XA) (hO : xOk a) (S : XS) (p1 : Int32) (hI : xI S) : Met l yX0_tally wsX0_tally ({ frames := 2, cells := 0, slots := 0, locals := 42 }) (va_Pc [.ref (xa a), .int p1] (xB D a S)) (xQi D a (xF_tally S p1)) 0 0 (xA a) := by
  refine Met.ofW (cc := cX0_tally) (maxL := 4) (ret := (some .int)) (by decide) rfl ?_
  intro p e s m args below meth c s₁ B hml hv
  obtain ⟨rfl, hP, hK⟩ := hv
  have hx := B.exec
  have hb := B.bytes
  have hr := B.returns
  have hts := atoms_spec (ws := wsX0_tally) B.pre
  have hown : s.vm.findClass RX0 = some m.cls := findClass_of_methodNamed B.named
  have hlocks := B.notSynchronized
  have hS : va_S (xA a) s.heap s.heap [] := va_S.rf
  have hP : va_P D vwCl (xW a S) s.heap := hP
  have hu : ∀ w ∈ wsX00, w ∈ wsX0_tally := fun _ h => List.mem_cons_of_mem _ (List.mem_append_right _ h)
  have hf37 := hts (.fieldLink RX0 37 "FlightBooks" "latestFault" "I") (by decide +kernel)
  have hk57 := hts (.constant RX0 57 (-300000)) (by decide +kernel)
  have hf9 := hts (.fieldLink RX0 9 "FlightBooks" "lineCounts" "[I") (by decide +kernel)
  have hf15 := hts (.fieldLink RX0 15 "FlightBooks" "held" "[[I") (by decide +kernel)
  have loop : ∀ (n k : Nat) (i z : Int32) (H : Heap) (locs : List Loc) (ls : Array Slot), k ≤ 24 → 25 ≤ k + n → i = nI k → va_P D vwCl (xW a S) H → va_S (xA a) s.heap H locs → lv_has ls 4 [(3, .int i), (2, .int z), (0, .ref (xa a)), (1, .int p1)] → xF_tally S p1 = (xF_tallyL S p1 n i z, S) → vp_in p1 5 → W p l e (headSpec wsX0_tally ({ frames := 2, cells := 0, slots := 0, locals := 42 })).room s m [.ref (xa a), .int p1].toArray below meth c H locs 0 0 (MQ below (xQi D a (xF_tally S p1)) [.ref (xa a), .int p1].toArray s 0 0 (xA a)) (F0 m 27 ls []) := by
    intro n
    induction n with
    | zero =>
      intro k i z H locs ls h1 h2
      exact absurd h2 (by omega)
    | succ n ih =>
      intro k i z H locs ls hk hkn ei hP hS hl hF h5
      refine lv_iload_n hx hb dX0_tally_27 rfl (lv_at hl 0 rfl) ?_
      refine lv_aload_n hx hb dX0_tally_28 rfl (lv_at hl 2 rfl) ?_
      refine x_get hx hb hts hu hown hK hP 1 (by decide) hf9 rfl (v := .ref (xac a)) rfl dX0_tally_29 ?_
      refine lv_iload_n hx hb dX0_tally_32 rfl (lv_at hl 3 rfl) ?_
      refine x_ldc hx hb hK hP h5 dX0_tally_33 ?_
      refine lv_icmp_ge (tgt := 54) hx hb dX0_tally_34 (by decide) (fun c10 => ?_) (fun c10 => ?_)
      · refine lv_iload_n hx hb dX0_tally_54 rfl (lv_at hl 1 rfl) ?_
        exact W.iret (v := z) hx hb hr (fun t ht hW => ⟨⟨z, S, rfl, (hF.trans (by simp only [xF_tallyL, if_pos c10])), by rw [ht]; exact hP, va_K.moved hW.alike hK⟩, hS.F ht⟩) hS.2.2 dX0_tally_55
      · obtain ⟨hin, hkk⟩ := xl_in (N := 24) (by decide) hk ei (hI.1 _ (vk_lt h5)).2 c10
        refine lv_iload_n hx hb dX0_tally_37 rfl (lv_at hl 1 rfl) ?_
        refine lv_aload_n hx hb dX0_tally_38 rfl (lv_at hl 2 rfl) ?_
        refine x_get hx hb hts hu hown hK hP 2 (by decide) hf15 rfl (v := .ref (xah a)) rfl dX0_tally_39 ?_
        refine lv_iload_n hx hb dX0_tally_42 rfl (lv_at hl 3 rfl) ?_
        refine x_aldh hx hb hK hP h5 dX0_tally_43 ?_
        refine lv_iload_n hx hb dX0_tally_44 rfl (lv_at hl 0 rfl) ?_
        refine x_ldh hx hb hK hP h5 hin dX0_tally_45 ?_
        refine lv_iadd hx hb dX0_tally_46 ?_
        refine lv_istore_n (lv' := [(2, .int (z + (xh S p1 i))), (3, .int i), (0, .ref (xa a)), (1, .int p1)]) hx hb dX0_tally_47 rfl hl (by decide) rfl (fun ls hl => ?_)
        refine lv_iinc (v := (i + 1)) (lv' := [(3, .int (i + 1)), (2, .int (z + (xh S p1 i))), (0, .ref (xa a)), (1, .int p1)]) hx hb dX0_tally_48 hl (k := 1) rfl rfl (by decide) rfl (fun ls hl => ?_)
        refine lv_goto (tgt := 27) hx hb dX0_tally_51 (by decide) ?_
        exact ih (k + 1) (i + 1) (z + (xh S p1 i)) _ _ ls hkk (by omega) (by rw [ei]; exact nI_1 k) hP hS (lv_sub hl [0, 1, 2, 3] rfl) (hF.trans (by simp only [xF_tallyL, if_neg c10])) h5
  have hl := lv_entry ([.ref (xa a), .int p1]) (n := 4) (Nat.le_of_ble_eq_true rfl)
  rw [lg_entry_eq]
  generalize (lg_sl ([.ref (xa a), .int p1]) ++ List.replicate (4 - (lg_sl ([.ref (xa a), .int p1])).length) Slot.unset).toArray = ls at hl ⊢
  have hl : lv_has ls 4 [(0, .ref (xa a)), (1, .int p1)] := hl
  refine lv_iload_n hx hb dX0_tally_0 rfl (lv_at hl 1 rfl) ?_
  refine va_calli (va_runS (As := [.int p1]) (rest := []) ⟨hx, hb, hml, hown, hts⟩ (c_X0_isBook l p1) (va_cwS 1 hts gX0_tally_X0_isBook rfl rfl rfl hdX0_isBook ⟨Nat.le_of_ble_eq_true rfl, Nat.le_of_ble_eq_true rfl⟩) pPreS rfl rfl hl.1 rfl (lv_room (Nat.le_of_ble_eq_true rfl)) dX0_tally_1 ⟨Nat.zero_le _, Nat.zero_le _⟩) hS (fun q _ h => h.elim) (fun q h => h.elim) (fun r1 u1 t H1 locs ht hvm hw1 hB hz1 hk1 hS => ?_)
  have hP := P_kept hP hk1
  refine lv_if_ne (tgt := 10) hx hb dX0_tally_4 (by decide) (fun c2 => ?_) (fun c2 => ?_)
  · have hn3 := xe_book hw1 c2
    refine lv_aload_n hx hb dX0_tally_10 rfl (lv_at hl 0 rfl) ?_
    refine lv_iload_n hx hb dX0_tally_11 rfl (lv_at hl 1 rfl) ?_
    refine va_calli (va_runV (As := [.int p1]) (rest := []) ⟨hx, hb, hml, hown, hts⟩ (c_X0_endsAtBook l D a hO S p1 hn3) (cwV 1 hts gX0_tally_X0_endsAtBook rfl rfl rfl hdX0_endsAtBook ⟨Nat.le_of_ble_eq_true rfl, Nat.le_of_ble_eq_true rfl⟩) (xPreV hK hP) rfl rfl hl.1 rfl (lv_room (Nat.le_of_ble_eq_true rfl)) dX0_tally_12 ⟨Nat.zero_le _, Nat.zero_le _⟩) hS (fun q _ h => h) (fun q h => h) (fun r4 S4 t H1 locs ht hvm hw4 hB hz1 hk1 hS => ?_)
    obtain ⟨hP, -⟩ := hB
    rw [ht] at hP
    refine lv_if_eq (tgt := 23) hx hb dX0_tally_15 (by decide) (fun c6 => ?_) (fun c6 => ?_)
    · have hs7 := xe_endsAtBook hw4 c6
      subst hs7
      refine lv_iconst (v := 0) hx hb dX0_tally_23 (by decide) ?_
      refine lv_istore_n (lv' := [(2, .int 0), (0, .ref (xa a)), (1, .int p1)]) hx hb dX0_tally_24 rfl hl (by decide) rfl (fun ls hl => ?_)
      refine lv_iconst (v := 0) hx hb dX0_tally_25 (by decide) ?_
      refine lv_istore_n (lv' := [(3, .int 0), (2, .int 0), (0, .ref (xa a)), (1, .int p1)]) hx hb dX0_tally_26 rfl hl (by decide) rfl (fun ls hl => ?_)
      exact loop 25 0 0 0 _ _ ls (by decide) (by decide) nI_0.symm hP hS (lv_sub hl [0, 1, 2, 3] rfl) (by simp only [xF_tally, hw1, if_neg c2, hw4, if_pos c6]) hn3
    · refine lv_aload_n hx hb dX0_tally_18 rfl (lv_at hl 0 rfl) ?_
      refine x_get hx hb hts hu hown hK hP 9 (by decide) hf37 rfl (v := .int (xLf S4)) rfl dX0_tally_19 ?_
      exact W.iret (v := (xLf S4)) hx hb hr (fun t ht hW => ⟨⟨(xLf S4), S4, rfl, (by simp only [xF_tally, hw1, if_neg c2, hw4, if_neg c6]), by rw [ht]; exact hP, va_K.moved hW.alike hK⟩, hS.F ht⟩) hS.2.2 dX0_tally_22
  · refine lv_ldc (v := (-300000)) hx hb hown hk57 dX0_tally_7 ?_
    exact W.iret (v := (-300000)) hx hb hr (fun t ht hW => ⟨⟨(-300000), S, rfl, (by simp only [xF_tally, hw1, if_pos c2]), by rw [ht]; exact hP, va_K.moved hW.alike hK⟩, hS.F ht⟩) hS.2.2 dX0_tally_9
/-- copy's loop -/
def xF_copyL (p1 p2 : Int32) : Nat → Int32 → XS → Int32 × XS
  | 0, _, S => (0, S)
  | n + 1, i, S => if xc S p1 ≤ i then (xc S p1, S) else (let q := xF_endsAtLine S p2 i; if q.1 = 0 then xF_copyL p1 p2 n (i + 1) (xF_put q.2 p2 i (xF_told p2 (xh q.2 p1 i))) else (xLf q.2, q.2))
def xF_copy (S : XS) (p1 p2 : Int32) : Int32 × XS := (if (xF_isBook p1) = 0 then ((-300000), S) else (if (xF_isBook p2) = 0 then ((-300000), S) else (if p1 = p2 then ((-300000), S) else (let q10 := xF_endsAtBook S p1; (if q10.1 = 0 then (xF_copyL p1 p2 25 0 q10.2) else ((xLf q10.2), q10.2))))))
theorem hdX0_copy : yX0_copy.cls = RX0 ∧ yX0_copy.cls ≠ "java/lang/invoke/MethodHandle" ∧ yX0_copy.cls ≠ "java/lang/invoke/VarHandle" ∧ (parseMethodDescriptor yX0_copy.desc).map (fun d => d.parameters.length) = some 2 := by decide +kernel
set_option maxHeartbeats 4000000 in
set_option maxRecDepth 100000 in
theorem c_X0_copy (l : Launch) (D : va_G) (a : XA) (hO : xOk a) (S : XS) (p1 p2 : Int32) (hI : xI S) : Met l yX0_copy wsX0_copy ({ frames := 4, cells := 0, slots := 0, locals := 86 }) (va_Pc [.ref (xa a), .int p1, .int p2] (xB D a S)) (xQi D a (xF_copy S p1 p2)) 0 0 (xA a) := by
  refine Met.ofW (cc := cX0_copy) (maxL := 4) (ret := (some .int)) (by decide) rfl ?_
  intro p e s m args below meth c s₁ B hml hv
  obtain ⟨rfl, hP, hK⟩ := hv
  have hx := B.exec
  have hb := B.bytes
  have hr := B.returns
  have hts := atoms_spec (ws := wsX0_copy) B.pre
  have hown : s.vm.findClass RX0 = some m.cls := findClass_of_methodNamed B.named
  have hlocks := B.notSynchronized
  have hS : va_S (xA a) s.heap s.heap [] := va_S.rf
  have hP : va_P D vwCl (xW a S) s.heap := hP
  have hu : ∀ w ∈ wsX00, w ∈ wsX0_copy := fun _ h => List.mem_cons_of_mem _ (List.mem_append_right _ h)
  have hk57 := hts (.constant RX0 57 (-300000)) (by decide +kernel)
  have hf37 := hts (.fieldLink RX0 37 "FlightBooks" "latestFault" "I") (by decide +kernel)
  have hf9 := hts (.fieldLink RX0 9 "FlightBooks" "lineCounts" "[I") (by decide +kernel)
  have hf15 := hts (.fieldLink RX0 15 "FlightBooks" "held" "[[I") (by decide +kernel)
  have loop : ∀ (n k : Nat) (i : Int32) (Z : XS) (H : Heap) (locs : List Loc) (ls : Array Slot), k ≤ 24 → 25 ≤ k + n → i = nI k → va_P D vwCl (xW a Z) H → va_S (xA a) s.heap H locs → lv_has ls 4 [(3, .int i), (0, .ref (xa a)), (1, .int p1), (2, .int p2)] → xF_copy S p1 p2 = xF_copyL p1 p2 n i Z → vp_in p1 5 → vp_in p2 5 → xI Z → W p l e (headSpec wsX0_copy ({ frames := 4, cells := 0, slots := 0, locals := 86 })).room s m [.ref (xa a), .int p1, .int p2].toArray below meth c H locs 0 0 (MQ below (xQi D a (xF_copy S p1 p2)) [.ref (xa a), .int p1, .int p2].toArray s 0 0 (xA a)) (F0 m 37 ls []) := by
    intro n
    induction n with
    | zero =>
      intro k i Z H locs ls h1 h2
      exact absurd h2 (by omega)
    | succ n ih =>
      intro k i Z H locs ls hk hkn ei hP hS hl hF h5 h6 hI
      refine lv_iload_n hx hb dX0_copy_37 rfl (lv_at hl 0 rfl) ?_
      refine lv_aload_n hx hb dX0_copy_38 rfl (lv_at hl 1 rfl) ?_
      refine x_get hx hb hts hu hown hK hP 1 (by decide) hf9 rfl (v := .ref (xac a)) rfl dX0_copy_39 ?_
      refine lv_iload_n hx hb dX0_copy_42 rfl (lv_at hl 2 rfl) ?_
      refine x_ldc hx hb hK hP h5 dX0_copy_43 ?_
      refine lv_icmp_ge (tgt := 85) hx hb dX0_copy_44 (by decide) (fun c15 => ?_) (fun c15 => ?_)
      · refine lv_aload_n hx hb dX0_copy_85 rfl (lv_at hl 1 rfl) ?_
        refine x_get hx hb hts hu hown hK hP 1 (by decide) hf9 rfl (v := .ref (xac a)) rfl dX0_copy_86 ?_
        refine lv_iload_n hx hb dX0_copy_89 rfl (lv_at hl 2 rfl) ?_
        refine x_ldc hx hb hK hP h5 dX0_copy_90 ?_
        exact W.iret (v := (xc Z p1)) hx hb hr (fun t ht hW => ⟨⟨(xc Z p1), Z, rfl, (hF.trans (by simp only [xF_copyL, if_pos c15])), by rw [ht]; exact hP, va_K.moved hW.alike hK⟩, hS.F ht⟩) hS.2.2 dX0_copy_91
      · obtain ⟨hin, hkk⟩ := xl_in (N := 24) (by decide) hk ei (hI.1 _ (vk_lt h5)).2 c15
        refine lv_aload_n hx hb dX0_copy_47 rfl (lv_at hl 1 rfl) ?_
        refine lv_iload_n hx hb dX0_copy_48 rfl (lv_at hl 3 rfl) ?_
        refine lv_iload_n hx hb dX0_copy_49 rfl (lv_at hl 0 rfl) ?_
        refine va_calli (va_runV (As := [.int p2, .int i]) (rest := []) ⟨hx, hb, hml, hown, hts⟩ (c_X0_endsAtLine l D a hO Z p2 i hI h6) (cwV 2 hts gX0_copy_X0_endsAtLine rfl rfl rfl hdX0_endsAtLine ⟨Nat.le_of_ble_eq_true rfl, Nat.le_of_ble_eq_true rfl⟩) (xPreV hK hP) rfl rfl hl.1 rfl (lv_room (Nat.le_of_ble_eq_true rfl)) dX0_copy_50 ⟨Nat.zero_le _, Nat.zero_le _⟩) hS (fun q _ h => h) (fun q h => h) (fun r16 S16 t H1 locs ht hvm hw16 hB hz1 hk1 hS => ?_)
        obtain ⟨hP, -⟩ := hB
        rw [ht] at hP
        refine lv_if_eq (tgt := 61) hx hb dX0_copy_53 (by decide) (fun c18 => ?_) (fun c18 => ?_)
        · obtain ⟨hn19, hs19⟩ := xe_endsAtLine hI h6 hw16 c18
          subst hs19
          refine lv_aload_n hx hb dX0_copy_61 rfl (lv_at hl 1 rfl) ?_
          refine lv_iload_n hx hb dX0_copy_62 rfl (lv_at hl 3 rfl) ?_
          refine lv_iload_n hx hb dX0_copy_63 rfl (lv_at hl 0 rfl) ?_
          refine lv_iload_n hx hb dX0_copy_64 rfl (lv_at hl 3 rfl) ?_
          refine lv_aload_n hx hb dX0_copy_65 rfl (lv_at hl 1 rfl) ?_
          refine x_get hx hb hts hu hown hK hP 2 (by decide) hf15 rfl (v := .ref (xah a)) rfl dX0_copy_66 ?_
          refine lv_iload_n hx hb dX0_copy_69 rfl (lv_at hl 2 rfl) ?_
          refine x_aldh hx hb hK hP h5 dX0_copy_70 ?_
          refine lv_iload_n hx hb dX0_copy_71 rfl (lv_at hl 0 rfl) ?_
          refine x_ldh hx hb hK hP h5 hn19 dX0_copy_72 ?_
          refine va_calli (va_runS (As := [.int p2, .int (xh Z p1 i)]) (rest := [.int i, .int p2, .ref (xa a)]) ⟨hx, hb, hml, hown, hts⟩ (c_X0_told l p2 (xh Z p1 i)) (va_cwS 2 hts gX0_copy_X0_told rfl rfl rfl hdX0_told ⟨Nat.le_of_ble_eq_true rfl, Nat.le_of_ble_eq_true rfl⟩) pPreS rfl rfl hl.1 rfl (lv_room (Nat.le_of_ble_eq_true rfl)) dX0_copy_73 ⟨Nat.zero_le _, Nat.zero_le _⟩) hS (fun q _ h => h.elim) (fun q h => h.elim) (fun r20 u20 t H1 locs ht hvm hw20 hB hz1 hk1 hS => ?_)
          have hP := P_kept hP hk1
          refine va_callv (va_runV (As := [.int p2, .int i, .int r20]) (rest := []) ⟨hx, hb, hml, hown, hts⟩ (c_X0_put l D a hO Z p2 i r20 h6 hn19) (cwV 3 hts gX0_copy_X0_put rfl rfl rfl hdX0_put ⟨Nat.le_of_ble_eq_true rfl, Nat.le_of_ble_eq_true rfl⟩) (xPreV hK hP) rfl rfl hl.1 rfl (lv_room (Nat.le_of_ble_eq_true rfl)) dX0_copy_76 ⟨Nat.zero_le _, Nat.zero_le _⟩) hS (fun q _ h => h) (fun q h => h) (fun S21 t H1 locs ht hvm hw21 hB hz1 hk1 hS => ?_)
          obtain ⟨hP, -⟩ := hB
          rw [ht] at hP
          have hI := xI_put hI hw21
          refine lv_iinc (v := (i + 1)) (lv' := [(3, .int (i + 1)), (0, .ref (xa a)), (1, .int p1), (2, .int p2)]) hx hb dX0_copy_79 hl (k := 0) rfl rfl (by decide) rfl (fun ls hl => ?_)
          refine lv_goto (tgt := 37) hx hb dX0_copy_82 (by decide) ?_
          exact ih (k + 1) (i + 1) S21 _ _ ls hkk (by omega) (by rw [ei]; exact nI_1 k) hP hS (lv_sub hl [0, 1, 2, 3] rfl) (hF.trans (by simp only [xF_copyL, if_neg c15, hw16, if_pos c18, hw20, hw21])) h5 h6 hI
        · refine lv_aload_n hx hb dX0_copy_56 rfl (lv_at hl 1 rfl) ?_
          refine x_get hx hb hts hu hown hK hP 9 (by decide) hf37 rfl (v := .int (xLf S16)) rfl dX0_copy_57 ?_
          exact W.iret (v := (xLf S16)) hx hb hr (fun t ht hW => ⟨⟨(xLf S16), S16, rfl, (hF.trans (by simp only [xF_copyL, if_neg c15, hw16, if_neg c18])), by rw [ht]; exact hP, va_K.moved hW.alike hK⟩, hS.F ht⟩) hS.2.2 dX0_copy_60
  have hl := lv_entry ([.ref (xa a), .int p1, .int p2]) (n := 4) (Nat.le_of_ble_eq_true rfl)
  rw [lg_entry_eq]
  generalize (lg_sl ([.ref (xa a), .int p1, .int p2]) ++ List.replicate (4 - (lg_sl ([.ref (xa a), .int p1, .int p2])).length) Slot.unset).toArray = ls at hl ⊢
  have hl : lv_has ls 4 [(0, .ref (xa a)), (1, .int p1), (2, .int p2)] := hl
  refine lv_iload_n hx hb dX0_copy_0 rfl (lv_at hl 1 rfl) ?_
  refine va_calli (va_runS (As := [.int p1]) (rest := []) ⟨hx, hb, hml, hown, hts⟩ (c_X0_isBook l p1) (va_cwS 1 hts gX0_copy_X0_isBook rfl rfl rfl hdX0_isBook ⟨Nat.le_of_ble_eq_true rfl, Nat.le_of_ble_eq_true rfl⟩) pPreS rfl rfl hl.1 rfl (lv_room (Nat.le_of_ble_eq_true rfl)) dX0_copy_1 ⟨Nat.zero_le _, Nat.zero_le _⟩) hS (fun q _ h => h.elim) (fun q h => h.elim) (fun r1 u1 t H1 locs ht hvm hw1 hB hz1 hk1 hS => ?_)
  have hP := P_kept hP hk1
  refine lv_if_eq (tgt := 19) hx hb dX0_copy_4 (by decide) (fun c2 => ?_) (fun c2 => ?_)
  · refine lv_ldc (v := (-300000)) hx hb hown hk57 dX0_copy_19 ?_
    exact W.iret (v := (-300000)) hx hb hr (fun t ht hW => ⟨⟨(-300000), S, rfl, (by simp only [xF_copy, hw1, if_pos c2]), by rw [ht]; exact hP, va_K.moved hW.alike hK⟩, hS.F ht⟩) hS.2.2 dX0_copy_21
  · have hn4 := xe_book hw1 c2
    refine lv_iload_n hx hb dX0_copy_7 rfl (lv_at hl 2 rfl) ?_
    refine va_calli (va_runS (As := [.int p2]) (rest := []) ⟨hx, hb, hml, hown, hts⟩ (c_X0_isBook l p2) (va_cwS 1 hts gX0_copy_X0_isBook rfl rfl rfl hdX0_isBook ⟨Nat.le_of_ble_eq_true rfl, Nat.le_of_ble_eq_true rfl⟩) pPreS rfl rfl hl.1 rfl (lv_room (Nat.le_of_ble_eq_true rfl)) dX0_copy_8 ⟨Nat.zero_le _, Nat.zero_le _⟩) hS (fun q _ h => h.elim) (fun q h => h.elim) (fun r5 u5 t H1 locs ht hvm hw5 hB hz1 hk1 hS => ?_)
    have hP := P_kept hP hk1
    refine lv_if_eq (tgt := 19) hx hb dX0_copy_11 (by decide) (fun c6 => ?_) (fun c6 => ?_)
    · refine lv_ldc (v := (-300000)) hx hb hown hk57 dX0_copy_19 ?_
      exact W.iret (v := (-300000)) hx hb hr (fun t ht hW => ⟨⟨(-300000), S, rfl, (by simp only [xF_copy, hw1, if_neg c2, hw5, if_pos c6]), by rw [ht]; exact hP, va_K.moved hW.alike hK⟩, hS.F ht⟩) hS.2.2 dX0_copy_21
    · have hn8 := xe_book hw5 c6
      refine lv_iload_n hx hb dX0_copy_14 rfl (lv_at hl 1 rfl) ?_
      refine lv_iload_n hx hb dX0_copy_15 rfl (lv_at hl 2 rfl) ?_
      refine lv_icmp_ne (tgt := 22) hx hb dX0_copy_16 (by decide) (fun c9 => ?_) (fun c9 => ?_)
      · refine lv_aload_n hx hb dX0_copy_22 rfl (lv_at hl 0 rfl) ?_
        refine lv_iload_n hx hb dX0_copy_23 rfl (lv_at hl 1 rfl) ?_
        refine va_calli (va_runV (As := [.int p1]) (rest := []) ⟨hx, hb, hml, hown, hts⟩ (c_X0_endsAtBook l D a hO S p1 hn4) (cwV 1 hts gX0_copy_X0_endsAtBook rfl rfl rfl hdX0_endsAtBook ⟨Nat.le_of_ble_eq_true rfl, Nat.le_of_ble_eq_true rfl⟩) (xPreV hK hP) rfl rfl hl.1 rfl (lv_room (Nat.le_of_ble_eq_true rfl)) dX0_copy_24 ⟨Nat.zero_le _, Nat.zero_le _⟩) hS (fun q _ h => h) (fun q h => h) (fun r10 S10 t H1 locs ht hvm hw10 hB hz1 hk1 hS => ?_)
        obtain ⟨hP, -⟩ := hB
        rw [ht] at hP
        refine lv_if_eq (tgt := 35) hx hb dX0_copy_27 (by decide) (fun c12 => ?_) (fun c12 => ?_)
        · have hs13 := xe_endsAtBook hw10 c12
          subst hs13
          refine lv_iconst (v := 0) hx hb dX0_copy_35 (by decide) ?_
          refine lv_istore_n (lv' := [(3, .int 0), (0, .ref (xa a)), (1, .int p1), (2, .int p2)]) hx hb dX0_copy_36 rfl hl (by decide) rfl (fun ls hl => ?_)
          exact loop 25 0 0 S _ _ ls (by decide) (by decide) nI_0.symm hP hS (lv_sub hl [0, 1, 2, 3] rfl) (by simp only [xF_copy, hw1, if_neg c2, hw5, if_neg c6, if_neg c9, hw10, if_pos c12]) hn4 hn8 hI
        · refine lv_aload_n hx hb dX0_copy_30 rfl (lv_at hl 0 rfl) ?_
          refine x_get hx hb hts hu hown hK hP 9 (by decide) hf37 rfl (v := .int (xLf S10)) rfl dX0_copy_31 ?_
          exact W.iret (v := (xLf S10)) hx hb hr (fun t ht hW => ⟨⟨(xLf S10), S10, rfl, (by simp only [xF_copy, hw1, if_neg c2, hw5, if_neg c6, if_neg c9, hw10, if_neg c12]), by rw [ht]; exact hP, va_K.moved hW.alike hK⟩, hS.F ht⟩) hS.2.2 dX0_copy_34
      · refine lv_ldc (v := (-300000)) hx hb hown hk57 dX0_copy_19 ?_
        exact W.iret (v := (-300000)) hx hb hr (fun t ht hW => ⟨⟨(-300000), S, rfl, (by simp only [xF_copy, hw1, if_neg c2, hw5, if_neg c6, if_pos c9]), by rw [ht]; exact hP, va_K.moved hW.alike hK⟩, hS.F ht⟩) hS.2.2 dX0_copy_21
/-- survey's loop -/
def xF_surveyL (p1 : Int32) : Nat → Int32 → XS → XS
  | 0, _, S => S
  | n + 1, i, S => if p1 ≤ i then S else xF_surveyL p1 n (i + 1) (xsP S (va_up (xP S) (Int32.toNatClampNeg i) (fun _ => 0)))
def xF_survey (S : XS) (p1 p2 : Int32) : Int32 × XS := (if 24 < p1 then ((-2), S) else (if p2 ≤ 24 then (if p1 < 0 then ((-3), S) else (if 0 ≤ p2 then (0, (xsCc (xsRc (xF_surveyL p1 25 0 S) p1) p2)) else ((-3), S))) else ((-2), S)))
theorem hdX0_survey : yX0_survey.cls = RX0 ∧ yX0_survey.cls ≠ "java/lang/invoke/MethodHandle" ∧ yX0_survey.cls ≠ "java/lang/invoke/VarHandle" ∧ (parseMethodDescriptor yX0_survey.desc).map (fun d => d.parameters.length) = some 2 := by decide +kernel
set_option maxHeartbeats 4000000 in
set_option maxRecDepth 100000 in
theorem c_X0_survey (l : Launch) (D : va_G) (a : XA) (hO : xOk a) (S : XS) (p1 p2 : Int32) : Met l yX0_survey wsX0_survey ({ frames := 1, cells := 0, slots := 0, locals := 23 }) (va_Pc [.ref (xa a), .int p1, .int p2] (xB D a S)) (xQi D a (xF_survey S p1 p2)) 0 0 (xA a) := by
  refine Met.ofW (cc := cX0_survey) (maxL := 4) (ret := (some .int)) (by decide) rfl ?_
  intro p e s m args below meth c s₁ B hml hv
  obtain ⟨rfl, hP, hK⟩ := hv
  have hx := B.exec
  have hb := B.bytes
  have hr := B.returns
  have hts := atoms_spec (ws := wsX0_survey) B.pre
  have hown : s.vm.findClass RX0 = some m.cls := findClass_of_methodNamed B.named
  have hlocks := B.notSynchronized
  have hS : va_S (xA a) s.heap s.heap [] := va_S.rf
  have hP : va_P D vwCl (xW a S) s.heap := hP
  have hu : ∀ w ∈ wsX00, w ∈ wsX0_survey := fun _ h => List.mem_cons_of_mem _ (List.mem_append_right _ h)
  have hf21 := hts (.fieldLink RX0 21 "FlightBooks" "rowCount" "I") (by decide +kernel)
  have hf25 := hts (.fieldLink RX0 25 "FlightBooks" "columnCount" "I") (by decide +kernel)
  have hf18 := hts (.fieldLink RX0 18 "FlightBooks" "places" "[[I") (by decide +kernel)
  have loop : ∀ (n k : Nat) (i : Int32) (Z : XS) (H : Heap) (locs : List Loc) (ls : Array Slot), k ≤ 24 → 25 ≤ k + n → i = nI k → va_P D vwCl (xW a Z) H → va_S (xA a) s.heap H locs → lv_has ls 4 [(3, .int i), (0, .ref (xa a)), (1, .int p1), (2, .int p2)] → xF_survey S p1 p2 = (0, (xsCc (xsRc (xF_surveyL p1 n i Z) p1) p2)) → ¬ 24 < p1 → W p l e (headSpec wsX0_survey ({ frames := 1, cells := 0, slots := 0, locals := 23 })).room s m [.ref (xa a), .int p1, .int p2].toArray below meth c H locs 0 0 (MQ below (xQi D a (xF_survey S p1 p2)) [.ref (xa a), .int p1, .int p2].toArray s 0 0 (xA a)) (F0 m 28 ls []) := by
    intro n
    induction n with
    | zero =>
      intro k i Z H locs ls h1 h2
      exact absurd h2 (by omega)
    | succ n ih =>
      intro k i Z H locs ls hk hkn ei hP hS hl hF h24
      refine lv_iload_n hx hb dX0_survey_28 rfl (lv_at hl 0 rfl) ?_
      refine lv_iload_n hx hb dX0_survey_29 rfl (lv_at hl 2 rfl) ?_
      refine lv_icmp_ge (tgt := 49) hx hb dX0_survey_30 (by decide) (fun c5 => ?_) (fun c5 => ?_)
      · refine lv_aload_n hx hb dX0_survey_49 rfl (lv_at hl 1 rfl) ?_
        refine lv_iload_n hx hb dX0_survey_50 rfl (lv_at hl 2 rfl) ?_
        refine x_put hx hb hts hu hown hO hK hP hS 4 (by decide) hf21 rfl rfl (by decide +kernel) (xsRc Z p1) rfl rfl dX0_survey_51 (fun H locs hP hS => ?_)
        refine lv_aload_n hx hb dX0_survey_54 rfl (lv_at hl 1 rfl) ?_
        refine lv_iload_n hx hb dX0_survey_55 rfl (lv_at hl 3 rfl) ?_
        refine x_put hx hb hts hu hown hO hK hP hS 5 (by decide) hf25 rfl rfl (by decide +kernel) (xsCc (xsRc Z p1) p2) rfl rfl dX0_survey_56 (fun H locs hP hS => ?_)
        refine lv_iconst (v := 0) hx hb dX0_survey_59 (by decide) ?_
        exact W.iret (v := 0) hx hb hr (fun t ht hW => ⟨⟨0, (xsCc (xsRc Z p1) p2), rfl, (hF.trans (by simp only [xF_surveyL, if_pos c5])), by rw [ht]; exact hP, va_K.moved hW.alike hK⟩, hS.F ht⟩) hS.2.2 dX0_survey_60
      · obtain ⟨hin, hkk⟩ := xl_in (N := 24) (by decide) hk ei (by rw [Int32.lt_iff_toInt_lt, show (24 : Int32).toInt = 24 by decide] at h24; omega) c5
        refine lv_aload_n hx hb dX0_survey_33 rfl (lv_at hl 1 rfl) ?_
        refine x_get hx hb hts hu hown hK hP 3 (by decide) hf18 rfl (v := .ref (xap a)) rfl dX0_survey_34 ?_
        refine lv_iload_n hx hb dX0_survey_37 rfl (lv_at hl 0 rfl) ?_
        refine x_aldp hx hb hK hP hin dX0_survey_38 ?_
        refine lv_iconst (v := 0) hx hb dX0_survey_39 (by decide) ?_
        refine x_fillp (rest := []) hx hb hml hl.1 hown hts gX0_survey_J7_fill_53178 (Nat.le_of_ble_eq_true rfl) (Nat.le_of_ble_eq_true rfl) (Nat.zero_le _) (Nat.zero_le _) (Nat.zero_le _) hO hK hP hS hin dX0_survey_40 (fun H locs hP hS => ?_)
        refine lv_iinc (v := (i + 1)) (lv' := [(3, .int (i + 1)), (0, .ref (xa a)), (1, .int p1), (2, .int p2)]) hx hb dX0_survey_43 hl (k := 0) rfl rfl (by decide) rfl (fun ls hl => ?_)
        refine lv_goto (tgt := 28) hx hb dX0_survey_46 (by decide) ?_
        exact ih (k + 1) (i + 1) (xsP Z (va_up (xP Z) (Int32.toNatClampNeg i) (fun _ => 0))) _ _ ls hkk (by omega) (by rw [ei]; exact nI_1 k) hP hS (lv_sub hl [0, 1, 2, 3] rfl) (hF.trans (by simp only [xF_surveyL, if_neg c5])) h24
  have hl := lv_entry ([.ref (xa a), .int p1, .int p2]) (n := 4) (Nat.le_of_ble_eq_true rfl)
  rw [lg_entry_eq]
  generalize (lg_sl ([.ref (xa a), .int p1, .int p2]) ++ List.replicate (4 - (lg_sl ([.ref (xa a), .int p1, .int p2])).length) Slot.unset).toArray = ls at hl ⊢
  have hl : lv_has ls 4 [(0, .ref (xa a)), (1, .int p1), (2, .int p2)] := hl
  refine lv_iload_n hx hb dX0_survey_0 rfl (lv_at hl 1 rfl) ?_
  refine lv_bipush (v := 24) hx hb dX0_survey_1 (by decide) ?_
  refine lv_icmp_gt (tgt := 12) hx hb dX0_survey_3 (by decide) (fun c1 => ?_) (fun c1 => ?_)
  · refine lv_bipush (v := (-2)) hx hb dX0_survey_12 (by decide) ?_
    exact W.iret (v := (-2)) hx hb hr (fun t ht hW => ⟨⟨(-2), S, rfl, (by simp only [xF_survey, if_pos c1]), by rw [ht]; exact hP, va_K.moved hW.alike hK⟩, hS.F ht⟩) hS.2.2 dX0_survey_14
  · refine lv_iload_n hx hb dX0_survey_6 rfl (lv_at hl 2 rfl) ?_
    refine lv_bipush (v := 24) hx hb dX0_survey_7 (by decide) ?_
    refine lv_icmp_le (tgt := 15) hx hb dX0_survey_9 (by decide) (fun c2 => ?_) (fun c2 => ?_)
    · refine lv_iload_n hx hb dX0_survey_15 rfl (lv_at hl 1 rfl) ?_
      refine lv_if_lt (tgt := 23) hx hb dX0_survey_16 (by decide) (fun c3 => ?_) (fun c3 => ?_)
      · refine lv_bipush (v := (-3)) hx hb dX0_survey_23 (by decide) ?_
        exact W.iret (v := (-3)) hx hb hr (fun t ht hW => ⟨⟨(-3), S, rfl, (by simp only [xF_survey, if_neg c1, if_pos c2, if_pos c3]), by rw [ht]; exact hP, va_K.moved hW.alike hK⟩, hS.F ht⟩) hS.2.2 dX0_survey_25
      · refine lv_iload_n hx hb dX0_survey_19 rfl (lv_at hl 2 rfl) ?_
        refine lv_if_ge (tgt := 26) hx hb dX0_survey_20 (by decide) (fun c4 => ?_) (fun c4 => ?_)
        · refine lv_iconst (v := 0) hx hb dX0_survey_26 (by decide) ?_
          refine lv_istore_n (lv' := [(3, .int 0), (0, .ref (xa a)), (1, .int p1), (2, .int p2)]) hx hb dX0_survey_27 rfl hl (by decide) rfl (fun ls hl => ?_)
          exact loop 25 0 0 S _ _ ls (by decide) (by decide) nI_0.symm hP hS (lv_sub hl [0, 1, 2, 3] rfl) (by simp only [xF_survey, if_neg c1, if_pos c2, if_neg c3, if_pos c4]) c1
        · refine lv_bipush (v := (-3)) hx hb dX0_survey_23 (by decide) ?_
          exact W.iret (v := (-3)) hx hb hr (fun t ht hW => ⟨⟨(-3), S, rfl, (by simp only [xF_survey, if_neg c1, if_pos c2, if_neg c3, if_neg c4]), by rw [ht]; exact hP, va_K.moved hW.alike hK⟩, hS.F ht⟩) hS.2.2 dX0_survey_25
    · refine lv_bipush (v := (-2)) hx hb dX0_survey_12 (by decide) ?_
      exact W.iret (v := (-2)) hx hb hr (fun t ht hW => ⟨⟨(-2), S, rfl, (by simp only [xF_survey, if_neg c1, if_neg c2]), by rw [ht]; exact hP, va_K.moved hW.alike hK⟩, hS.F ht⟩) hS.2.2 dX0_survey_14
/-- booksKept's loop -/
def xF_keptL (S : XS) : Nat → Int32 → Int32 → Int32
  | 0, _, z => z
  | n + 1, i, z => if 5 ≤ i then z else if xc S i = -1 then xF_keptL S n (i + 1) z else xF_keptL S n (i + 1) (z + 1)
def xF_booksKept (S : XS) : Int32 := (xF_keptL S 6 0 0)
theorem hdX0_booksKept : yX0_booksKept.cls = RX0 ∧ yX0_booksKept.cls ≠ "java/lang/invoke/MethodHandle" ∧ yX0_booksKept.cls ≠ "java/lang/invoke/VarHandle" ∧ (parseMethodDescriptor yX0_booksKept.desc).map (fun d => d.parameters.length) = some 0 := by decide +kernel
set_option maxHeartbeats 4000000 in
set_option maxRecDepth 100000 in
theorem c_X0_booksKept (l : Launch) (D : va_G) (a : XA) (hO : xOk a) (S : XS) : Met l yX0_booksKept wsX0_booksKept ({ frames := 0, cells := 0, slots := 0, locals := 0 }) (va_Pc [.ref (xa a)] (xB D a S)) (va_Qi (fun (r : Int32) (u : XS) => xF_booksKept S = r ∧ u = S) (xB D a) (xA a)) 0 0 (xA a) := by
  refine Met.ofW (cc := cX0_booksKept) (maxL := 3) (ret := (some .int)) (by decide) rfl ?_
  intro p e s m args below meth c s₁ B hml hv
  obtain ⟨rfl, hP, hK⟩ := hv
  have hx := B.exec
  have hb := B.bytes
  have hr := B.returns
  have hts := atoms_spec (ws := wsX0_booksKept) B.pre
  have hown : s.vm.findClass RX0 = some m.cls := findClass_of_methodNamed B.named
  have hlocks := B.notSynchronized
  have hS : va_S (xA a) s.heap s.heap [] := va_S.rf
  have hP : va_P D vwCl (xW a S) s.heap := hP
  have hu : ∀ w ∈ wsX00, w ∈ wsX0_booksKept := fun _ h => List.mem_cons_of_mem _ (List.mem_append_right _ h)
  have hf9 := hts (.fieldLink RX0 9 "FlightBooks" "lineCounts" "[I") (by decide +kernel)
  have loop : ∀ (n k : Nat) (i z : Int32) (H : Heap) (locs : List Loc) (ls : Array Slot), k ≤ 5 → 6 ≤ k + n → i = nI k → va_P D vwCl (xW a S) H → va_S (xA a) s.heap H locs → lv_has ls 3 [(2, .int i), (1, .int z), (0, .ref (xa a))] → xF_booksKept S = xF_keptL S n i z → W p l e (headSpec wsX0_booksKept ({ frames := 0, cells := 0, slots := 0, locals := 0 })).room s m [.ref (xa a)].toArray below meth c H locs 0 0 (MQ below (va_Qi (fun (r : Int32) (u : XS) => xF_booksKept S = r ∧ u = S) (xB D a) (xA a)) [.ref (xa a)].toArray s 0 0 (xA a)) (F0 m 4 ls []) := by
    intro n
    induction n with
    | zero =>
      intro k i z H locs ls h1 h2
      exact absurd h2 (by omega)
    | succ n ih =>
      intro k i z H locs ls hk hkn ei hP hS hl hF
      refine lv_iload_n hx hb dX0_booksKept_4 rfl (lv_at hl 0 rfl) ?_
      refine lv_iconst (v := 5) hx hb dX0_booksKept_5 (by decide) ?_
      refine lv_icmp_ge (tgt := 28) hx hb dX0_booksKept_6 (by decide) (fun c1 => ?_) (fun c1 => ?_)
      · refine lv_iload_n hx hb dX0_booksKept_28 rfl (lv_at hl 1 rfl) ?_
        exact W.iret (v := z) hx hb hr (fun t ht hW => ⟨⟨z, S, rfl, ⟨(hF.trans (by simp only [xF_keptL, if_pos c1])), rfl⟩, by rw [ht]; exact hP, va_K.moved hW.alike hK⟩, hS.F ht⟩) hS.2.2 dX0_booksKept_29
      · obtain ⟨hin, hkk⟩ := xl_in (N := 5) (by decide) hk ei (by decide) c1
        refine lv_aload_n hx hb dX0_booksKept_9 rfl (lv_at hl 2 rfl) ?_
        refine x_get hx hb hts hu hown hK hP 1 (by decide) hf9 rfl (v := .ref (xac a)) rfl dX0_booksKept_10 ?_
        refine lv_iload_n hx hb dX0_booksKept_13 rfl (lv_at hl 0 rfl) ?_
        refine x_ldc hx hb hK hP hin dX0_booksKept_14 ?_
        refine lv_iconst (v := (-1)) hx hb dX0_booksKept_15 (by decide) ?_
        refine lv_icmp_eq (tgt := 22) hx hb dX0_booksKept_16 (by decide) (fun c2 => ?_) (fun c2 => ?_)
        · refine lv_iinc (v := (i + 1)) (lv' := [(2, .int (i + 1)), (1, .int z), (0, .ref (xa a))]) hx hb dX0_booksKept_22 hl (k := 0) rfl rfl (by decide) rfl (fun ls hl => ?_)
          refine lv_goto (tgt := 4) hx hb dX0_booksKept_25 (by decide) ?_
          exact ih (k + 1) (i + 1) z _ _ ls hkk (by omega) (by rw [ei]; exact nI_1 k) hP hS (lv_sub hl [0, 1, 2] rfl) (hF.trans (by simp only [xF_keptL, if_neg c1, if_pos c2]))
        · refine lv_iinc (v := (z + 1)) (lv' := [(1, .int (z + 1)), (2, .int i), (0, .ref (xa a))]) hx hb dX0_booksKept_19 hl (k := 1) rfl rfl (by decide) rfl (fun ls hl => ?_)
          refine lv_iinc (v := (i + 1)) (lv' := [(2, .int (i + 1)), (1, .int (z + 1)), (0, .ref (xa a))]) hx hb dX0_booksKept_22 hl (k := 1) rfl rfl (by decide) rfl (fun ls hl => ?_)
          refine lv_goto (tgt := 4) hx hb dX0_booksKept_25 (by decide) ?_
          exact ih (k + 1) (i + 1) (z + 1) _ _ ls hkk (by omega) (by rw [ei]; exact nI_1 k) hP hS (lv_sub hl [0, 1, 2] rfl) (hF.trans (by simp only [xF_keptL, if_neg c1, if_neg c2]))
  have hl := lv_entry ([.ref (xa a)]) (n := 3) (Nat.le_of_ble_eq_true rfl)
  rw [lg_entry_eq]
  generalize (lg_sl ([.ref (xa a)]) ++ List.replicate (3 - (lg_sl ([.ref (xa a)])).length) Slot.unset).toArray = ls at hl ⊢
  have hl : lv_has ls 3 [(0, .ref (xa a))] := hl
  refine lv_iconst (v := 0) hx hb dX0_booksKept_0 (by decide) ?_
  refine lv_istore_n (lv' := [(1, .int 0), (0, .ref (xa a))]) hx hb dX0_booksKept_1 rfl hl (by decide) rfl (fun ls hl => ?_)
  refine lv_iconst (v := 0) hx hb dX0_booksKept_2 (by decide) ?_
  refine lv_istore_n (lv' := [(2, .int 0), (1, .int 0), (0, .ref (xa a))]) hx hb dX0_booksKept_3 rfl hl (by decide) rfl (fun ls hl => ?_)
  exact loop 6 0 0 0 _ _ ls (by decide) (by decide) nI_0.symm hP hS (lv_sub hl [0, 1, 2] rfl) (by simp only [xF_booksKept])
def xF_look (S : XS) (p1 : Int32) : Int32 := (if p1 = 0 then (xN S) else (if p1 = 1 then (xBo S) else (if p1 = 2 then (xEo S) else (if p1 = 3 then (xFc S) else (if p1 = 4 then (xLf S) else (if p1 = 5 then (xF_booksKept S ) else (-300000)))))))
theorem hdX0_look : yX0_look.cls = RX0 ∧ yX0_look.cls ≠ "java/lang/invoke/MethodHandle" ∧ yX0_look.cls ≠ "java/lang/invoke/VarHandle" ∧ (parseMethodDescriptor yX0_look.desc).map (fun d => d.parameters.length) = some 1 := by decide +kernel
set_option maxHeartbeats 4000000 in
set_option maxRecDepth 100000 in
theorem c_X0_look (l : Launch) (D : va_G) (a : XA) (hO : xOk a) (S : XS) (p1 : Int32) : Met l yX0_look wsX0_look ({ frames := 1, cells := 0, slots := 0, locals := 22 }) (va_Pc [.ref (xa a), .int p1] (xB D a S)) (va_Qi (fun (r : Int32) (u : XS) => xF_look S p1 = r ∧ u = S) (xB D a) (xA a)) 0 0 (xA a) := by
  refine Met.ofW (cc := cX0_look) (maxL := 2) (ret := (some .int)) (by decide) rfl ?_
  intro p e s m args below meth c s₁ B hml hv
  obtain ⟨rfl, hP, hK⟩ := hv
  have hx := B.exec
  have hb := B.bytes
  have hr := B.returns
  have hts := atoms_spec (ws := wsX0_look) B.pre
  have hown : s.vm.findClass RX0 = some m.cls := findClass_of_methodNamed B.named
  have hlocks := B.notSynchronized
  have hS : va_S (xA a) s.heap s.heap [] := va_S.rf
  have hP : va_P D vwCl (xW a S) s.heap := hP
  have hu : ∀ w ∈ wsX00, w ∈ wsX0_look := fun _ h => List.mem_cons_of_mem _ (List.mem_append_right _ h)
  have hf44 := hts (.fieldLink RX0 44 "FlightBooks" "chamberCount" "I") (by decide +kernel)
  have hf28 := hts (.fieldLink RX0 28 "FlightBooks" "bargesOut" "I") (by decide +kernel)
  have hf31 := hts (.fieldLink RX0 31 "FlightBooks" "eighthsOut" "I") (by decide +kernel)
  have hf34 := hts (.fieldLink RX0 34 "FlightBooks" "faultCount" "I") (by decide +kernel)
  have hf37 := hts (.fieldLink RX0 37 "FlightBooks" "latestFault" "I") (by decide +kernel)
  have hk57 := hts (.constant RX0 57 (-300000)) (by decide +kernel)
  have hl := lv_entry ([.ref (xa a), .int p1]) (n := 2) (Nat.le_of_ble_eq_true rfl)
  rw [lg_entry_eq]
  generalize (lg_sl ([.ref (xa a), .int p1]) ++ List.replicate (2 - (lg_sl ([.ref (xa a), .int p1])).length) Slot.unset).toArray = ls at hl ⊢
  have hl : lv_has ls 2 [(0, .ref (xa a)), (1, .int p1)] := hl
  refine lv_iload_n hx hb dX0_look_0 rfl (lv_at hl 1 rfl) ?_
  by_cases c1 : p1 = 0
  · refine lv_tableIn (tgt := 40) hx hb dX0_look_1 (by rw [c1]; decide) (by rw [c1]; decide) (by rw [c1]; rfl) (by decide) ?_
    refine lv_aload_n hx hb dX0_look_40 rfl (lv_at hl 0 rfl) ?_
    refine x_get hx hb hts hu hown hK hP 0 (by decide) hf44 rfl (v := .int (xN S)) rfl dX0_look_41 ?_
    exact W.iret (v := (xN S)) hx hb hr (fun t ht hW => ⟨⟨(xN S), S, rfl, ⟨(by simp only [xF_look, if_pos c1]), rfl⟩, by rw [ht]; exact hP, va_K.moved hW.alike hK⟩, hS.F ht⟩) hS.2.2 dX0_look_44
  · skip
    by_cases c2 : p1 = 1
    · refine lv_tableIn (tgt := 45) hx hb dX0_look_1 (by rw [c2]; decide) (by rw [c2]; decide) (by rw [c2]; rfl) (by decide) ?_
      refine lv_aload_n hx hb dX0_look_45 rfl (lv_at hl 0 rfl) ?_
      refine x_get hx hb hts hu hown hK hP 6 (by decide) hf28 rfl (v := .int (xBo S)) rfl dX0_look_46 ?_
      exact W.iret (v := (xBo S)) hx hb hr (fun t ht hW => ⟨⟨(xBo S), S, rfl, ⟨(by simp only [xF_look, if_pos c2, if_neg c1]), rfl⟩, by rw [ht]; exact hP, va_K.moved hW.alike hK⟩, hS.F ht⟩) hS.2.2 dX0_look_49
    · skip
      by_cases c3 : p1 = 2
      · refine lv_tableIn (tgt := 50) hx hb dX0_look_1 (by rw [c3]; decide) (by rw [c3]; decide) (by rw [c3]; rfl) (by decide) ?_
        refine lv_aload_n hx hb dX0_look_50 rfl (lv_at hl 0 rfl) ?_
        refine x_get hx hb hts hu hown hK hP 7 (by decide) hf31 rfl (v := .int (xEo S)) rfl dX0_look_51 ?_
        exact W.iret (v := (xEo S)) hx hb hr (fun t ht hW => ⟨⟨(xEo S), S, rfl, ⟨(by simp only [xF_look, if_pos c3, if_neg c1, if_neg c2]), rfl⟩, by rw [ht]; exact hP, va_K.moved hW.alike hK⟩, hS.F ht⟩) hS.2.2 dX0_look_54
      · skip
        by_cases c4 : p1 = 3
        · refine lv_tableIn (tgt := 55) hx hb dX0_look_1 (by rw [c4]; decide) (by rw [c4]; decide) (by rw [c4]; rfl) (by decide) ?_
          refine lv_aload_n hx hb dX0_look_55 rfl (lv_at hl 0 rfl) ?_
          refine x_get hx hb hts hu hown hK hP 8 (by decide) hf34 rfl (v := .int (xFc S)) rfl dX0_look_56 ?_
          exact W.iret (v := (xFc S)) hx hb hr (fun t ht hW => ⟨⟨(xFc S), S, rfl, ⟨(by simp only [xF_look, if_pos c4, if_neg c1, if_neg c2, if_neg c3]), rfl⟩, by rw [ht]; exact hP, va_K.moved hW.alike hK⟩, hS.F ht⟩) hS.2.2 dX0_look_59
        · skip
          by_cases c5 : p1 = 4
          · refine lv_tableIn (tgt := 60) hx hb dX0_look_1 (by rw [c5]; decide) (by rw [c5]; decide) (by rw [c5]; rfl) (by decide) ?_
            refine lv_aload_n hx hb dX0_look_60 rfl (lv_at hl 0 rfl) ?_
            refine x_get hx hb hts hu hown hK hP 9 (by decide) hf37 rfl (v := .int (xLf S)) rfl dX0_look_61 ?_
            exact W.iret (v := (xLf S)) hx hb hr (fun t ht hW => ⟨⟨(xLf S), S, rfl, ⟨(by simp only [xF_look, if_pos c5, if_neg c1, if_neg c2, if_neg c3, if_neg c4]), rfl⟩, by rw [ht]; exact hP, va_K.moved hW.alike hK⟩, hS.F ht⟩) hS.2.2 dX0_look_64
          · skip
            by_cases c6 : p1 = 5
            · refine lv_tableIn (tgt := 65) hx hb dX0_look_1 (by rw [c6]; decide) (by rw [c6]; decide) (by rw [c6]; rfl) (by decide) ?_
              refine lv_aload_n hx hb dX0_look_65 rfl (lv_at hl 0 rfl) ?_
              refine va_calli (va_runV (As := []) (rest := []) ⟨hx, hb, hml, hown, hts⟩ (c_X0_booksKept l D a hO S ) (cwV 0 hts gX0_look_X0_booksKept rfl rfl rfl hdX0_booksKept ⟨Nat.le_of_ble_eq_true rfl, Nat.le_of_ble_eq_true rfl⟩) (xPreV hK hP) rfl rfl hl.1 rfl (lv_room (Nat.le_of_ble_eq_true rfl)) dX0_look_66 ⟨Nat.zero_le _, Nat.zero_le _⟩) hS (fun q _ h => h) (fun q h => h) (fun r7 S7 t H1 locs ht hvm hw7 hB hz1 hk1 hS => ?_)
              obtain ⟨hP, -⟩ := hB
              rw [ht] at hP
              obtain ⟨hw7, hSe7⟩ := hw7
              rw [hSe7] at hP
              exact W.iret (v := r7) hx hb hr (fun t ht hW => ⟨⟨r7, S, rfl, ⟨(by simp only [xF_look, if_pos c6, if_neg c1, if_neg c2, if_neg c3, if_neg c4, if_neg c5, hw7]), rfl⟩, by rw [ht]; exact hP, va_K.moved hW.alike hK⟩, hS.F ht⟩) hS.2.2 dX0_look_69
            · skip
              have nc1 := lv_neT c1 (a := 0) (by decide)
              have nc2 := lv_neT c2 (a := 1) (by decide)
              have nc3 := lv_neT c3 (a := 2) (by decide)
              have nc4 := lv_neT c4 (a := 3) (by decide)
              have nc5 := lv_neT c5 (a := 4) (by decide)
              have nc6 := lv_neT c6 (a := 5) (by decide)
              refine lv_tableOut (tgt := 70) hx hb dX0_look_1 (by omega) (by decide) ?_
              refine lv_ldc (v := (-300000)) hx hb hown hk57 dX0_look_70 ?_
              exact W.iret (v := (-300000)) hx hb hr (fun t ht hW => ⟨⟨(-300000), S, rfl, ⟨(by simp only [xF_look, if_neg c1, if_neg c2, if_neg c3, if_neg c4, if_neg c5, if_neg c6]), rfl⟩, by rw [ht]; exact hP, va_K.moved hW.alike hK⟩, hS.F ht⟩) hS.2.2 dX0_look_72
end
