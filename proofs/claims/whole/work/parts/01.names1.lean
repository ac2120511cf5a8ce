/-! ===== BEGIN words of one list among another's, by their places ===== -/
theorem goodIn_r {big : List Cond} (ws : List Cond) (ps : List Nat) (hp : ws = ps.filterMap (fun i => big[i]?)) (h : ws.all goodWord = true) : GoodIn big ws := by
  intro w hw
  have h1 := List.all_eq_true.mp h w hw
  rw [hp] at hw
  obtain ⟨i, -, hi⟩ := List.mem_filterMap.mp hw
  have hm : w ∈ big := by first | exact List.mem_of_getElem? hi | exact List.getElem?_mem hi
  exact ⟨hm, good_of_word h1⟩
theorem goodIn_app {big a b : List Cond} (ha : GoodIn big a) (hb : GoodIn big b) : GoodIn big (a ++ b) := fun w h => (List.mem_append.mp h).elim (ha w) (hb w)
theorem goodIn_ca {big a b : List Cond} {c : Cond} (ha : GoodIn big (c :: a)) (hb : GoodIn big b) : GoodIn big (c :: (a ++ b)) := fun w h => (List.mem_cons.mp h).elim (fun e => ha w (List.mem_cons.mpr (Or.inl e))) (fun h => (List.mem_append.mp h).elim (fun h => ha w (List.mem_cons.mpr (Or.inr h))) (hb w))
theorem goodIn_sub {big ws : List Cond} (hm : ∀ w ∈ ws, w ∈ big) (h : ws.all goodWord = true) : GoodIn big ws := fun w hw => ⟨hm w hw, good_of_word (List.all_eq_true.mp h w hw)⟩
/-! ===== END ===== -/

/-! ===== BEGIN new T[n][m]: the outer array a place, the inner ones among the pooled ===== -/
/-- f, but v at every address of l -/
def vr_up {α : Type} (f : Nat → α) (l : List Nat) (v : α) : Nat → α := fun a => if a ∈ l then v else f a
theorem vr_up_in {α : Type} {f : Nat → α} {l : List Nat} {v : α} {a : Nat} (h : a ∈ l) : vr_up f l v a = v := if_pos h
theorem vr_up_ne {α : Type} {f : Nat → α} {l : List Nat} {v : α} {a : Nat} (h : a ∉ l) : vr_up f l v a = f a := if_neg h
theorem vr_rows {L l : List Nat} {f : Nat → va_E} {e : va_E} (h : ∀ a, a ∈ l → a ∉ L) : va_pl L f ++ l.map (fun a => (a, e)) = va_pl (L ++ l) (vr_up f l e) := by
  unfold va_pl
  rw [List.map_append]
  congr 1
  · apply List.map_congr_left
    intro a ha
    rw [vr_up_ne (fun q => h a q ha)]
  · apply List.map_congr_left
    intro a ha
    rw [vr_up_in ha]
theorem vr_lay {X rows : va_W} {x : Nat × va_E} {pl : va_W} {D : va_G} {cl : List vw_C} {H : Heap} (hP : va_P D cl (((X ++ pl) ++ [x]) ++ rows) H) : va_P D cl ((X ++ [x]) ++ (pl ++ rows)) H := by
  rw [List.append_assoc (X ++ pl)] at hP
  have h := va_P.swap hP
  rw [← List.append_assoc X] at h
  have h2 := va_P.swap h
  rw [List.append_assoc (X ++ [x])] at h2
  exact h2
theorem vr_layD {X rows : va_W} {x : Nat × va_E} {pl : va_W} {A : Nat → Prop} (hD : va_D A (((X ++ pl) ++ [x]) ++ rows)) : va_D A ((X ++ [x]) ++ (pl ++ rows)) := by
  rw [List.append_assoc (X ++ pl)] at hD
  have h := va_D.swap hD
  rw [← List.append_assoc X] at h
  have h2 := va_D.swap h
  rw [List.append_assoc (X ++ [x])] at h2
  exact h2
theorem vr_outer (c : ClassId) (N h0 : Nat) : ∀ i : Nat, Jvm.Free.Multi.outerC c N h0 i = arrV c N (fun j => va_rf (if j < i then some (h0 + 1 + j) else none))
  | 0 => by
    show ({ cls := c, slots := Array.replicate N .null, vm := .none } : Cell) = _
    rw [arrV_new]
    refine congrArg (arrV c N) (funext fun j => ?_)
    simp [va_rf]
  | i + 1 => by
    show (Jvm.Free.Multi.outerC c N h0 i).setSlot i (.ref (h0 + 1 + i)) = _
    rw [vr_outer c N h0 i, arrV_store]
    refine congrArg (arrV c N) (funext fun j => ?_)
    by_cases e : j = i
    · subst e
      simp [updV, va_rf]
    · by_cases h : j < i
      · simp [updV, e, h, Nat.lt_succ_of_lt h]
      · simp [updV, e, h, show ¬ j < i + 1 by omega]
/-- the class of arrays over int[] is there -/
def va_AOA (ty : FieldType) (U : State) : Prop := (Cond.arrayOver (.array ty)).before #[] U = true
theorem va_AOA.of {ty : FieldType} {A : Array Value} {U : State} (h : (Cond.arrayOver (.array ty)).before A U = true) : va_AOA ty U := h
theorem va_AOA.use {ty : FieldType} {A : Array Value} {U : State} (h : va_AOA ty U) : (Cond.arrayOver (.array ty)).before A U = true := h
section VGM
variable {p : Program} {l : Launch} {e : Env} {R : Room} {s : State} {m : MethodId} {args : Array Value} {below : List Frame} {meth : Method} {c : Code} {H : Heap} {locs : List Loc} {cells slots : Nat} {Q : State → Prop}
variable {cc : ByteArray} {pc : Nat} {ls : Array Slot} {rest : List Value} {D : va_G} {cl : List vw_C} {A : Nat → Prop} {a : Nat} {tys : List (ClassId × FieldType)} {ws : va_W} {H0 : Heap}
theorem va_mna {X : va_W} {L : List Nat} {f : Nat → va_E} {cc : ByteArray} (hexec : p.tables.exec = Jvm.exec) (hb : c.code = cc) {own : String} {index : Nat} {ty : FieldType} {cy : ClassId} (hown : s.vm.findClass own = some m.cls) (hclink : (Cond.classLink own index ("[" ++ (FieldType.array ty).toString)).before args s = true) (hover : va_AOA ty s) (harr : (Cond.arrayClass ty).before args s = true) (hcy : s.vm.findClass (FieldType.array ty).toString = some cy)
    (hK : va_K D cl tys s) (hP : va_P D cl (X ++ va_pl L f) H) (hD : va_D A (X ++ va_pl L f)) (hS : va_S A H0 H locs) (hA : ∀ q, H0.size ≤ q → A q) {n k : Int32} {N' K' : Nat} {z : vp_A} (hn : ¬ n < 0) (hk : ¬ k < 0) (hN : n.toNatClampNeg = N') (hM : k.toNatClampNeg = K')
    (hb1 : N' * 4 ≤ 536870912) (hb2 : K' * componentBytes ty ≤ 536870912) (hb3 : K' ≤ 536870912) (hdf : fits ty (defaultValue ty) = true) (hdd : (defaultValue ty).isDefault = true) (hcells : cells + (1 + N') ≤ R.cells) (hslots : slots + (N' + N' * K') ≤ R.slots) (hz : ∀ c : ClassId, Jvm.Free.Multi.innerC c K' (defaultValue ty) = vp_cell c z) (hdg : decode cc pc = .ok (.multianewarray index 2, 4))
    (kk : ∀ (q : Nat) (r : Nat → Nat) (cA : ClassId) (H1 : Heap), (∀ i j : Nat, i < N' → j < N' → r i = r j → i = j) → (∀ i : Nat, i < N' → r i ∉ L) → va_K D cl (tys ++ [(cA, .array ty)]) s →
      va_P D cl ((X ++ [(q, .inl (cA, N', .inr (.inr (.inr (.inr (fun i => if i < N' then some (r i) else none))))))]) ++ va_pl (L ++ (List.range N').map r) (vr_up f ((List.range N').map r) (.inl (cy, z)))) H1 → va_D A ((X ++ [(q, .inl (cA, N', .inr (.inr (.inr (.inr (fun i => if i < N' then some (r i) else none))))))]) ++ va_pl (L ++ (List.range N').map r) (vr_up f ((List.range N').map r) (.inl (cy, z)))) → va_S A H0 H1 locs →
      W p l e R s m args below meth c H1 locs (cells + 1 + N') (slots + N' + N' * K') Q (F0 m (pc + 4) ls (.ref q :: rest))) : W p l e R s m args below meth c H locs cells slots Q (F0 m pc ls (.int k :: .int n :: rest)) := by
  subst hN
  subst hM
  intro T hT Xs
  obtain ⟨vm₁, cA, comp, -, fA, fC, hO, -, X', step⟩ := Xs.multianewarray2F hexec hown hclink (va_AOA.use hover) harr (g := F0 m pc ls (.int k :: .int n :: rest)) rfl (by rw [hb]; exact hdg) rfl hn hk hb1 hb2 hb3 hdf hdd hcells hslots
  have ec : some cy = some comp := hcy.symm.trans fC
  cases ec
  generalize hF : Jvm.Free.Multi.fill (T.setVm vm₁) cA cy n.toNatClampNeg k.toNatClampNeg (defaultValue ty) n.toNatClampNeg = F at X' step
  have hTh : (T.setVm vm₁).heap = H := hT
  obtain ⟨f1, f2, -, -⟩ := Jvm.Free.Multi.fill_facts (T.setVm vm₁) cA cy n.toNatClampNeg k.toNatClampNeg (defaultValue ty) n.toNatClampNeg
  rw [hF, hTh] at f1 f2
  have hold : ∀ x : Nat, x < H.size → F.heap[x]? = H[x]? := fun x hx => by
    have := Jvm.Free.Multi.fill_old (T.setVm vm₁) cA cy n.toNatClampNeg k.toNatClampNeg (defaultValue ty) (a := x) (by rw [hTh]; exact hx) n.toNatClampNeg
    rw [hF, hTh] at this
    exact this
  have hrow : ∀ j : Nat, j < n.toNatClampNeg → F.heap[H.size + 1 + j]? = some (vp_cell cy z) := fun j hj => by
    have := Jvm.Free.Multi.fill_inner (T.setVm vm₁) cA cy n.toNatClampNeg k.toNatClampNeg (defaultValue ty) n.toNatClampNeg j hj
    rw [hF, hTh, hz] at this
    exact this
  have hout : Jvm.Free.Multi.outerC cA n.toNatClampNeg H.size n.toNatClampNeg = vp_cell cA (n.toNatClampNeg, .inr (.inr (.inr (.inr (fun i => if i < n.toNatClampNeg then some (H.size + 1 + i) else none))))) := by
    rw [vp_cell_q]
    exact vr_outer cA n.toNatClampNeg H.size n.toNatClampNeg
  rw [hout] at f2
  have hlt : ∀ a, a ∈ L → a < H.size := fun a ha => by
    obtain ⟨k9, hk9⟩ := va_pl_get (X := X) (f := f) ha
    exact (hP k9 _ hk9).lt
  have hnl : ∀ i : Nat, i < n.toNatClampNeg → H.size + 1 + i ∉ L := fun i _ h => by
    have := hlt _ h
    omega
  have hnm : ∀ a, a ∈ (List.range n.toNatClampNeg).map (fun i => H.size + 1 + i) → a ∉ L := fun a ha h => by
    obtain ⟨i, -, rfl⟩ := List.mem_map.mp ha
    have := hlt _ h
    omega
  have hP0 : va_P D cl (X ++ va_pl L f) F.heap := hP.kept (fun k9 x hx => hold x.1 ((hP k9 x hx).lt))
  have hP1 : va_P D cl ((X ++ va_pl L f) ++ [(H.size, .inl (cA, n.toNatClampNeg, .inr (.inr (.inr (.inr (fun i => if i < n.toNatClampNeg then some (H.size + 1 + i) else none))))))]) F.heap := hP0.app (fun k9 x hx => by
    have h0 : k9 < 1 := (List.getElem?_eq_some_iff.mp hx).1
    rw [show k9 = 0 by omega] at hx
    cases hx
    exact f2)
  have hP2 : va_P D cl (((X ++ va_pl L f) ++ [(H.size, .inl (cA, n.toNatClampNeg, .inr (.inr (.inr (.inr (fun i => if i < n.toNatClampNeg then some (H.size + 1 + i) else none))))))]) ++ ((List.range n.toNatClampNeg).map (fun i => H.size + 1 + i)).map (fun a => (a, .inl (cy, z)))) F.heap := hP1.app (fun k9 x hx => by
    obtain ⟨a, ha, rfl⟩ := List.mem_map.mp (List.mem_of_getElem? hx)
    obtain ⟨i, hi, rfl⟩ := List.mem_map.mp ha
    exact hrow i (List.mem_range.mp hi))
  have hD2 : va_D A (((X ++ va_pl L f) ++ [(H.size, .inl (cA, n.toNatClampNeg, .inr (.inr (.inr (.inr (fun i => if i < n.toNatClampNeg then some (H.size + 1 + i) else none))))))]) ++ ((List.range n.toNatClampNeg).map (fun i => H.size + 1 + i)).map (fun a => (a, .inl (cy, z)))) := by
    have hD1 := hD.push (e := .inl (cA, n.toNatClampNeg, .inr (.inr (.inr (.inr (fun i => if i < n.toNatClampNeg then some (H.size + 1 + i) else none)))))) hP rfl (hA _ hS.1)
    generalize hW1 : (X ++ va_pl L f) ++ [(H.size, .inl (cA, n.toNatClampNeg, .inr (.inr (.inr (.inr (fun i => if i < n.toNatClampNeg then some (H.size + 1 + i) else none))))))] = W1 at hD1 hP1 ⊢
    have hle : ∀ (k9 : Nat) (x : Nat × va_E), W1[k9]? = some x → x.1 ≤ H.size := fun k9 x hx => by
      rw [← hW1] at hx
      by_cases hl : k9 < (X ++ va_pl L f).length
      · rw [List.getElem?_append_left hl] at hx
        exact Nat.le_of_lt ((hP k9 x hx).lt)
      · rw [List.getElem?_append_right (by omega)] at hx
        have h0 : k9 - (X ++ va_pl L f).length < 1 := (List.getElem?_eq_some_iff.mp hx).1
        rw [show k9 - (X ++ va_pl L f).length = 0 by omega] at hx
        cases hx
        exact Nat.le_refl _
    have hr : ∀ (k9 : Nat) (x : Nat × va_E), (((List.range n.toNatClampNeg).map (fun i => H.size + 1 + i)).map (fun a => ((a, .inl (cy, z)) : Nat × va_E)))[k9]? = some x → x.1 = H.size + 1 + k9 := fun k9 x hx => by
      rw [List.getElem?_map, List.getElem?_map] at hx
      by_cases h9 : k9 < n.toNatClampNeg
      · rw [List.getElem?_range h9] at hx
        cases hx
        rfl
      · have hn0 : (List.range n.toNatClampNeg)[k9]? = none := List.getElem?_eq_none (by rw [List.length_range]; omega)
        rw [hn0] at hx
        cases hx
    refine ⟨fun i j x y hi hj hxy => ?_, fun k9 x hx => ?_⟩
    · by_cases h1 : i < W1.length <;> by_cases h2 : j < W1.length
      · rw [List.getElem?_append_left h1] at hi
        rw [List.getElem?_append_left h2] at hj
        exact hD1.1 i j x y hi hj hxy
      · rw [List.getElem?_append_left h1] at hi
        rw [List.getElem?_append_right (by omega)] at hj
        have := hle _ _ hi
        have := hr _ _ hj
        omega
      · rw [List.getElem?_append_right (by omega)] at hi
        rw [List.getElem?_append_left h2] at hj
        have := hle _ _ hj
        have := hr _ _ hi
        omega
      · rw [List.getElem?_append_right (by omega)] at hi hj
        have := hr _ _ hi
        have := hr _ _ hj
        omega
    · by_cases h1 : k9 < W1.length
      · rw [List.getElem?_append_left h1] at hx
        exact hD1.2 k9 x hx
      · rw [List.getElem?_append_right (by omega)] at hx
        have := hr _ _ hx
        exact hA _ (by have := hS.1; omega)
  have hAr : ArrOfT s cA (.array ty) := fun N9 z9 => by
    obtain ⟨-, k9, hk9, cm9, hkk9⟩ := (hO 0 0 0).1
    exact ⟨(fun q hq => by cases hq), k9, hk9, cm9, hkk9⟩
  have hK2 : va_K D cl (tys ++ [(cA, .array ty)]) s := ⟨hK.1, fun k9 x hx => by
    by_cases hl : k9 < tys.length
    · rw [List.getElem?_append_left hl] at hx
      exact hK.2 k9 x hx
    · rw [List.getElem?_append_right (by omega)] at hx
      have h0 : k9 - tys.length < 1 := (List.getElem?_eq_some_iff.mp hx).1
      rw [show k9 - tys.length = 0 by omega] at hx
      cases hx
      exact ⟨hAr, fA⟩⟩
  obtain ⟨t, a1, b1⟩ := kk H.size (fun i => H.size + 1 + i) cA F.heap (fun i j _ _ h => by have h9 : H.size + 1 + i = H.size + 1 + j := h; omega) hnl hK2 (by rw [← vr_rows hnm]; exact vr_lay hP2) (by rw [← vr_rows hnm]; exact vr_layD hD2) ⟨by rw [f1]; have := hS.1; omega, fun x h1 h2 => (hold x (Nat.lt_of_lt_of_le h1 hS.1)).trans (hS.2.1 x h1 h2), hS.2.2⟩ F rfl X'
  refine ⟨t, step t ?_, b1⟩
  have e : T.heap.size = H.size := by rw [hT]
  rw [e]
  exact a1
end VGM
/-! ===== END ===== -/

/-! ===== BEGIN printed: names, fields, word lists, decode rows ===== -/
def RX0 : String := "FlightBooks"
def TX0 : u_T := fun k => match k with
  | 0 => ("FlightBooks", "chamberCount", "I", true)
  | 1 => ("FlightBooks", "lineCounts", "[I", true)
  | 2 => ("FlightBooks", "held", "[[I", true)
  | 3 => ("FlightBooks", "places", "[[I", true)
  | 4 => ("FlightBooks", "rowCount", "I", false)
  | 5 => ("FlightBooks", "columnCount", "I", false)
  | 6 => ("FlightBooks", "bargesOut", "I", false)
  | 7 => ("FlightBooks", "eighthsOut", "I", false)
  | 8 => ("FlightBooks", "faultCount", "I", false)
  | _ => ("FlightBooks", "latestFault", "I", false)
def tyX0 : Nat → FieldType := fun k => match k with
  | 0 => .int
  | 1 => .array .int
  | 2 => .array (.array .int)
  | 3 => .array (.array .int)
  | 4 => .int
  | 5 => .int
  | 6 => .int
  | 7 => .int
  | 8 => .int
  | _ => .int
abbrev wsX00 : List Cond := u_ws RX0 TX0 10
theorem nmX0 : ∀ a, a < 10 → ∀ b, b < 10 → a ≠ b → (TX0 a).2.1 ≠ (TX0 b).2.1 := by decide +kernel
theorem tyX0_ok : ∀ k, k < 10 → parseFieldDescriptor (TX0 k).2.2.1 = some (tyX0 k) := by decide +kernel
abbrev cX0_init : ByteArray := prog_1_method_1_code
def yX0_init : MethodName := ⟨RX0, "<init>", "(I)V"⟩
abbrev cX0_keep : ByteArray := prog_1_method_2_code
def yX0_keep : MethodName := ⟨RX0, "keep", "(II)I"⟩
abbrev cX0_lose : ByteArray := prog_1_method_3_code
def yX0_lose : MethodName := ⟨RX0, "lose", "(I)I"⟩
abbrev cX0_lines : ByteArray := prog_1_method_4_code
def yX0_lines : MethodName := ⟨RX0, "lines", "(I)I"⟩
abbrev cX0_read : ByteArray := prog_1_method_5_code
def yX0_read : MethodName := ⟨RX0, "read", "(II)I"⟩
abbrev cX0_write : ByteArray := prog_1_method_6_code
def yX0_write : MethodName := ⟨RX0, "write", "(III)I"⟩
abbrev cX0_change : ByteArray := prog_1_method_7_code
def yX0_change : MethodName := ⟨RX0, "change", "(IIII)I"⟩
abbrev cX0_tally : ByteArray := prog_1_method_8_code
def yX0_tally : MethodName := ⟨RX0, "tally", "(I)I"⟩
abbrev cX0_copy : ByteArray := prog_1_method_9_code
def yX0_copy : MethodName := ⟨RX0, "copy", "(II)I"⟩
abbrev cX0_sluice : ByteArray := prog_1_method_10_code
def yX0_sluice : MethodName := ⟨RX0, "sluice", "(II)I"⟩
abbrev cX0_open : ByteArray := prog_1_method_11_code
def yX0_open : MethodName := ⟨RX0, "open", "(I)I"⟩
abbrev cX0_shut : ByteArray := prog_1_method_12_code
def yX0_shut : MethodName := ⟨RX0, "shut", "(I)I"⟩
abbrev cX0_enter : ByteArray := prog_1_method_13_code
def yX0_enter : MethodName := ⟨RX0, "enter", "(II)I"⟩
abbrev cX0_pass : ByteArray := prog_1_method_14_code
def yX0_pass : MethodName := ⟨RX0, "pass", "(I)I"⟩
abbrev cX0_survey : ByteArray := prog_1_method_15_code
def yX0_survey : MethodName := ⟨RX0, "survey", "(II)I"⟩
abbrev cX0_note : ByteArray := prog_1_method_16_code
def yX0_note : MethodName := ⟨RX0, "note", "(IIII)I"⟩
abbrev cX0_chart : ByteArray := prog_1_method_17_code
def yX0_chart : MethodName := ⟨RX0, "chart", "(II)I"⟩
abbrev cX0_columns : ByteArray := prog_1_method_18_code
def yX0_columns : MethodName := ⟨RX0, "columns", "(I)I"⟩
abbrev cX0_look : ByteArray := prog_1_method_19_code
def yX0_look : MethodName := ⟨RX0, "look", "(I)I"⟩
abbrev cX0_isBook : ByteArray := prog_1_method_20_code
def yX0_isBook : MethodName := ⟨RX0, "isBook", "(I)Z"⟩
abbrev cX0_isChamber : ByteArray := prog_1_method_21_code
def yX0_isChamber : MethodName := ⟨RX0, "isChamber", "(I)Z"⟩
abbrev cX0_isLast : ByteArray := prog_1_method_22_code
def yX0_isLast : MethodName := ⟨RX0, "isLast", "(I)Z"⟩
abbrev cX0_isToldLoad : ByteArray := prog_1_method_23_code
def yX0_isToldLoad : MethodName := ⟨RX0, "isToldLoad", "(I)Z"⟩
abbrev cX0_endsAtBook : ByteArray := prog_1_method_24_code
def yX0_endsAtBook : MethodName := ⟨RX0, "endsAtBook", "(I)Z"⟩
abbrev cX0_endsAtLine : ByteArray := prog_1_method_25_code
def yX0_endsAtLine : MethodName := ⟨RX0, "endsAtLine", "(II)Z"⟩
abbrev cX0_endsAtRow : ByteArray := prog_1_method_26_code
def yX0_endsAtRow : MethodName := ⟨RX0, "endsAtRow", "(I)Z"⟩
abbrev cX0_endsAtPlace : ByteArray := prog_1_method_27_code
def yX0_endsAtPlace : MethodName := ⟨RX0, "endsAtPlace", "(II)Z"⟩
abbrev cX0_endsAtArrival : ByteArray := prog_1_method_28_code
def yX0_endsAtArrival : MethodName := ⟨RX0, "endsAtArrival", "(III)Z"⟩
abbrev cX0_ended : ByteArray := prog_1_method_29_code
def yX0_ended : MethodName := ⟨RX0, "ended", "(I)Z"⟩
abbrev cX0_put : ByteArray := prog_1_method_30_code
def yX0_put : MethodName := ⟨RX0, "put", "(III)V"⟩
abbrev cX0_cut : ByteArray := prog_1_method_31_code
def yX0_cut : MethodName := ⟨RX0, "cut", "(II)I"⟩
abbrev cX0_nearest : ByteArray := prog_1_method_32_code
def yX0_nearest : MethodName := ⟨RX0, "nearest", "(III)I"⟩
abbrev cX0_told : ByteArray := prog_1_method_33_code
def yX0_told : MethodName := ⟨RX0, "told", "(II)I"⟩
abbrev cX0_changed : ByteArray := prog_1_method_34_code
def yX0_changed : MethodName := ⟨RX0, "changed", "(IIII)I"⟩
abbrev cX0_changedGate : ByteArray := prog_1_method_35_code
def yX0_changedGate : MethodName := ⟨RX0, "changedGate", "(III)I"⟩
abbrev cX0_goOut : ByteArray := prog_1_method_36_code
def yX0_goOut : MethodName := ⟨RX0, "goOut", "(I)I"⟩
abbrev cX0_goOn : ByteArray := prog_1_method_37_code
def yX0_goOn : MethodName := ⟨RX0, "goOn", "(I)I"⟩
abbrev cX0_leave : ByteArray := prog_1_method_38_code
def yX0_leave : MethodName := ⟨RX0, "leave", "(I)I"⟩
abbrev cX0_booksKept : ByteArray := prog_1_method_39_code
def yX0_booksKept : MethodName := ⟨RX0, "booksKept", "()I"⟩
def RX1 : String := "FlightBooksModel"
def TX1 : u_T := fun k => match k with
  | 0 => ("FlightBooksModel", "chambers", "I", true)
  | 1 => ("FlightBooksModel", "many", "[I", true)
  | 2 => ("FlightBooksModel", "cells", "[I", true)
  | 3 => ("FlightBooksModel", "places", "[I", true)
  | 4 => ("FlightBooksModel", "charted", "Z", false)
  | 5 => ("FlightBooksModel", "rows", "I", false)
  | 6 => ("FlightBooksModel", "across", "I", false)
  | 7 => ("FlightBooksModel", "out", "I", false)
  | 8 => ("FlightBooksModel", "outLoads", "I", false)
  | 9 => ("FlightBooksModel", "faults", "I", false)
  | 10 => ("FlightBooksModel", "latest", "I", false)
  | _ => ("FlightBooksModel", "fault", "I", false)
def tyX1 : Nat → FieldType := fun k => match k with
  | 0 => .int
  | 1 => .array .int
  | 2 => .array .int
  | 3 => .array .int
  | 4 => .boolean
  | 5 => .int
  | 6 => .int
  | 7 => .int
  | 8 => .int
  | 9 => .int
  | 10 => .int
  | _ => .int
abbrev wsX10 : List Cond := u_ws RX1 TX1 12
theorem nmX1 : ∀ a, a < 12 → ∀ b, b < 12 → a ≠ b → (TX1 a).2.1 ≠ (TX1 b).2.1 := by decide +kernel
theorem tyX1_ok : ∀ k, k < 12 → parseFieldDescriptor (TX1 k).2.2.1 = some (tyX1 k) := by decide +kernel
abbrev cX1_init : ByteArray := prog_3_method_1_code
def yX1_init : MethodName := ⟨RX1, "<init>", "(I)V"⟩
abbrev cX1_isBook : ByteArray := prog_3_method_2_code
def yX1_isBook : MethodName := ⟨RX1, "isBook", "(I)Z"⟩
abbrev cX1_isChamber : ByteArray := prog_3_method_3_code
def yX1_isChamber : MethodName := ⟨RX1, "isChamber", "(I)Z"⟩
abbrev cX1_has : ByteArray := prog_3_method_4_code
def yX1_has : MethodName := ⟨RX1, "has", "(II)Z"⟩
abbrev cX1_cell : ByteArray := prog_3_method_5_code
def yX1_cell : MethodName := ⟨RX1, "cell", "(II)I"⟩
abbrev cX1_cut : ByteArray := prog_3_method_6_code
def yX1_cut : MethodName := ⟨RX1, "cut", "(II)I"⟩
abbrev cX1_put : ByteArray := prog_3_method_7_code
def yX1_put : MethodName := ⟨RX1, "put", "(III)V"⟩
abbrev cX1_more : ByteArray := prog_3_method_8_code
def yX1_more : MethodName := ⟨RX1, "more", "(III)V"⟩
abbrev cX1_answer : ByteArray := prog_3_method_9_code
def yX1_answer : MethodName := ⟨RX1, "answer", "(I)I"⟩
abbrev cX1_keep : ByteArray := prog_3_method_10_code
def yX1_keep : MethodName := ⟨RX1, "keep", "(II)I"⟩
abbrev cX1_lose : ByteArray := prog_3_method_11_code
def yX1_lose : MethodName := ⟨RX1, "lose", "(I)I"⟩
abbrev cX1_lines : ByteArray := prog_3_method_12_code
def yX1_lines : MethodName := ⟨RX1, "lines", "(I)I"⟩
abbrev cX1_read : ByteArray := prog_3_method_13_code
def yX1_read : MethodName := ⟨RX1, "read", "(II)I"⟩
abbrev cX1_isLoad : ByteArray := prog_3_method_14_code
def yX1_isLoad : MethodName := ⟨RX1, "isLoad", "(I)Z"⟩
abbrev cX1_write : ByteArray := prog_3_method_15_code
def yX1_write : MethodName := ⟨RX1, "write", "(III)I"⟩
abbrev cX1_gate : ByteArray := prog_3_method_16_code
def yX1_gate : MethodName := ⟨RX1, "gate", "(III)I"⟩
abbrev cX1_change : ByteArray := prog_3_method_17_code
def yX1_change : MethodName := ⟨RX1, "change", "(IIII)I"⟩
abbrev cX1_tally : ByteArray := prog_3_method_18_code
def yX1_tally : MethodName := ⟨RX1, "tally", "(I)I"⟩
abbrev cX1_copy : ByteArray := prog_3_method_19_code
def yX1_copy : MethodName := ⟨RX1, "copy", "(II)I"⟩
abbrev cX1_sluice : ByteArray := prog_3_method_20_code
def yX1_sluice : MethodName := ⟨RX1, "sluice", "(II)I"⟩
abbrev cX1_open : ByteArray := prog_3_method_21_code
def yX1_open : MethodName := ⟨RX1, "open", "(I)I"⟩
abbrev cX1_shut : ByteArray := prog_3_method_22_code
def yX1_shut : MethodName := ⟨RX1, "shut", "(I)I"⟩
abbrev cX1_enter : ByteArray := prog_3_method_23_code
def yX1_enter : MethodName := ⟨RX1, "enter", "(II)I"⟩
abbrev cX1_moved : ByteArray := prog_3_method_24_code
def yX1_moved : MethodName := ⟨RX1, "moved", "(II)I"⟩
abbrev cX1_pass : ByteArray := prog_3_method_25_code
def yX1_pass : MethodName := ⟨RX1, "pass", "(I)I"⟩
abbrev cX1_survey : ByteArray := prog_3_method_26_code
def yX1_survey : MethodName := ⟨RX1, "survey", "(II)I"⟩
abbrev cX1_hasRow : ByteArray := prog_3_method_27_code
def yX1_hasRow : MethodName := ⟨RX1, "hasRow", "(I)Z"⟩
abbrev cX1_hasPlace : ByteArray := prog_3_method_28_code
def yX1_hasPlace : MethodName := ⟨RX1, "hasPlace", "(II)Z"⟩
abbrev cX1_note : ByteArray := prog_3_method_29_code
def yX1_note : MethodName := ⟨RX1, "note", "(IIII)I"⟩
abbrev cX1_chart : ByteArray := prog_3_method_30_code
def yX1_chart : MethodName := ⟨RX1, "chart", "(II)I"⟩
abbrev cX1_columns : ByteArray := prog_3_method_31_code
def yX1_columns : MethodName := ⟨RX1, "columns", "(I)I"⟩
abbrev cX1_look : ByteArray := prog_3_method_32_code
def yX1_look : MethodName := ⟨RX1, "look", "(I)I"⟩
def RJ9 : String := "java/lang/Math"
def TJ9 : u_T := fun k => match k with
  | _ => ("", "", "", false)
def tyJ9 : Nat → FieldType := fun k => match k with
  | _ => .int
abbrev wsJ90 : List Cond := u_ws RJ9 TJ9 0
theorem nmJ9 : ∀ a, a < 0 → ∀ b, b < 0 → a ≠ b → (TJ9 a).2.1 ≠ (TJ9 b).2.1 := by decide +kernel
theorem tyJ9_ok : ∀ k, k < 0 → parseFieldDescriptor (TJ9 k).2.2.1 = some (tyJ9 k) := by decide +kernel
abbrev cJ9_max_7cf53 : ByteArray := prog_4_method_65_code
def yJ9_max_7cf53 : MethodName := ⟨RJ9, "max", "(II)I"⟩
abbrev cJ9_min_7cf53 : ByteArray := prog_4_method_69_code
def yJ9_min_7cf53 : MethodName := ⟨RJ9, "min", "(II)I"⟩
def RJ7 : String := "java/util/Arrays"
def TJ7 : u_T := fun k => match k with
  | _ => ("", "", "", false)
def tyJ7 : Nat → FieldType := fun k => match k with
  | _ => .int
abbrev wsJ70 : List Cond := u_ws RJ7 TJ7 0
theorem nmJ7 : ∀ a, a < 0 → ∀ b, b < 0 → a ≠ b → (TJ7 a).2.1 ≠ (TJ7 b).2.1 := by decide +kernel
theorem tyJ7_ok : ∀ k, k < 0 → parseFieldDescriptor (TJ7 k).2.2.1 = some (tyJ7 k) := by decide +kernel
abbrev cJ7_fill_53178 : ByteArray := prog_5_method_103_code
def yJ7_fill_53178 : MethodName := ⟨RJ7, "fill", "([II)V"⟩
def RL : String := "FlightBooksLaw"
abbrev cL_cell : ByteArray := method_2_code
def yL_cell : MethodName := ⟨RL, "cell", "([II)I"⟩
abbrev cL_law : ByteArray := code
def yL_law : MethodName := ⟨RL, "law", "([I)Z"⟩
def wsX0_nearest : List Cond := .code yX0_nearest cX0_nearest 3 (some .int) :: ([.methodLink RX0 121 Lib.Math.min.name, .static Lib.Math.min.name, .initialized "java/lang/Math", .code Lib.Math.min.name Lib.Math.min.code 2 (some .int), .methodLink RX0 126 Lib.Math.max.name, .static Lib.Math.max.name, .code Lib.Math.max.name Lib.Math.max.code 2 (some .int)])
def wsJ7_fill_53178 : List Cond := .code yJ7_fill_53178 cJ7_fill_53178 4 none :: ([])
def wsX0_init_r1 : List Cond := [Cond.methodLink RX0 1 objectInit, Cond.instanceMethod objectInit, Cond.code objectInit ⟨#[0xb1]⟩ 1 none, Cond.arrayClass .int, Cond.fieldLink RX0 9 "FlightBooks" "lineCounts" "[I", Cond.classLink RX0 13 "[[I", Cond.fieldLink RX0 15 "FlightBooks" "held" "[[I", Cond.fieldLink RX0 18 "FlightBooks" "places" "[[I", Cond.fieldLink RX0 21 "FlightBooks" "rowCount" "I", Cond.fieldLink RX0 25 "FlightBooks" "columnCount" "I", Cond.fieldLink RX0 28 "FlightBooks" "bargesOut" "I", Cond.fieldLink RX0 31 "FlightBooks" "eighthsOut" "I", Cond.fieldLink RX0 34 "FlightBooks" "faultCount" "I", Cond.fieldLink RX0 37 "FlightBooks" "latestFault" "I", Cond.fieldLink RX0 44 "FlightBooks" "chamberCount" "I", Cond.methodLink RX0 40 yX0_nearest, Cond.static yX0_nearest, Cond.initialized RX0, Cond.code yX0_nearest cX0_nearest 3 (some .int), Cond.methodLink RX0 121 Lib.Math.min.name, Cond.static Lib.Math.min.name, Cond.initialized "java/lang/Math", Cond.code Lib.Math.min.name Lib.Math.min.code 2 (some .int), Cond.methodLink RX0 126 Lib.Math.max.name]
def wsX0_init_r2 : List Cond := [Cond.static Lib.Math.max.name, Cond.code Lib.Math.max.name Lib.Math.max.code 2 (some .int), Cond.methodLink RX0 47 yJ7_fill_53178, Cond.static yJ7_fill_53178, Cond.initialized RJ7, Cond.code yJ7_fill_53178 cJ7_fill_53178 4 none]
def wsX0_init : List Cond := .code yX0_init cX0_init 2 none :: ((wsX0_init_r1 ++ wsX0_init_r2) ++ wsX00)
def wsX0_isBook : List Cond := .code yX0_isBook cX0_isBook 1 (some .boolean) :: ([])
def wsX0_keep : List Cond := .code yX0_keep cX0_keep 3 (some .int) :: ([.constant RX0 57 (-300000), .fieldLink RX0 15 "FlightBooks" "held" "[[I", .fieldLink RX0 9 "FlightBooks" "lineCounts" "[I", .methodLink RX0 53 yX0_isBook, .static yX0_isBook, .initialized RX0, .code yX0_isBook cX0_isBook 1 (some .boolean), .methodLink RX0 47 yJ7_fill_53178, .static yJ7_fill_53178, .initialized RJ7, .code yJ7_fill_53178 cJ7_fill_53178 4 none] ++ wsX00)
def wsX0_lose : List Cond := .code yX0_lose cX0_lose 2 (some .int) :: ([.constant RX0 57 (-300000), .fieldLink RX0 9 "FlightBooks" "lineCounts" "[I", .methodLink RX0 53 yX0_isBook, .static yX0_isBook, .initialized RX0, .code yX0_isBook cX0_isBook 1 (some .boolean)] ++ wsX00)
def wsX0_ended : List Cond := .code yX0_ended cX0_ended 2 (some .boolean) :: ([.fieldLink RX0 34 "FlightBooks" "faultCount" "I", .fieldLink RX0 37 "FlightBooks" "latestFault" "I"] ++ wsX00)
def wsX0_endsAtBook : List Cond := .code yX0_endsAtBook cX0_endsAtBook 2 (some .boolean) :: ([.fieldLink RX0 9 "FlightBooks" "lineCounts" "[I", .constant RX0 110 (-100000), .methodLink RX0 111 yX0_ended, .instanceMethod yX0_ended, .selects RX0 yX0_ended yX0_ended, .initialized RX0, .code yX0_ended cX0_ended 2 (some .boolean), .fieldLink RX0 34 "FlightBooks" "faultCount" "I", .fieldLink RX0 37 "FlightBooks" "latestFault" "I"] ++ wsX00)
def wsX0_lines : List Cond := .code yX0_lines cX0_lines 2 (some .int) :: ([.constant RX0 57 (-300000), .fieldLink RX0 37 "FlightBooks" "latestFault" "I", .fieldLink RX0 9 "FlightBooks" "lineCounts" "[I", .methodLink RX0 53 yX0_isBook, .static yX0_isBook, .initialized RX0, .code yX0_isBook cX0_isBook 1 (some .boolean), .methodLink RX0 58 yX0_endsAtBook, .instanceMethod yX0_endsAtBook, .selects RX0 yX0_endsAtBook yX0_endsAtBook, .code yX0_endsAtBook cX0_endsAtBook 2 (some .boolean), .constant RX0 110 (-100000), .methodLink RX0 111 yX0_ended, .instanceMethod yX0_ended, .selects RX0 yX0_ended yX0_ended, .code yX0_ended cX0_ended 2 (some .boolean), .fieldLink RX0 34 "FlightBooks" "faultCount" "I"] ++ wsX00)
def wsX0_endsAtLine : List Cond := .code yX0_endsAtLine cX0_endsAtLine 3 (some .boolean) :: ([.fieldLink RX0 9 "FlightBooks" "lineCounts" "[I", .constant RX0 114 (-200000), .methodLink RX0 58 yX0_endsAtBook, .instanceMethod yX0_endsAtBook, .selects RX0 yX0_endsAtBook yX0_endsAtBook, .initialized RX0, .code yX0_endsAtBook cX0_endsAtBook 2 (some .boolean), .constant RX0 110 (-100000), .methodLink RX0 111 yX0_ended, .instanceMethod yX0_ended, .selects RX0 yX0_ended yX0_ended, .code yX0_ended cX0_ended 2 (some .boolean), .fieldLink RX0 34 "FlightBooks" "faultCount" "I", .fieldLink RX0 37 "FlightBooks" "latestFault" "I"] ++ wsX00)
def wsX0_read : List Cond := .code yX0_read cX0_read 3 (some .int) :: ([.constant RX0 57 (-300000), .fieldLink RX0 37 "FlightBooks" "latestFault" "I", .fieldLink RX0 15 "FlightBooks" "held" "[[I", .methodLink RX0 53 yX0_isBook, .static yX0_isBook, .initialized RX0, .code yX0_isBook cX0_isBook 1 (some .boolean), .methodLink RX0 61 yX0_endsAtLine, .instanceMethod yX0_endsAtLine, .selects RX0 yX0_endsAtLine yX0_endsAtLine, .code yX0_endsAtLine cX0_endsAtLine 3 (some .boolean), .fieldLink RX0 9 "FlightBooks" "lineCounts" "[I", .constant RX0 114 (-200000), .methodLink RX0 58 yX0_endsAtBook, .instanceMethod yX0_endsAtBook, .selects RX0 yX0_endsAtBook yX0_endsAtBook, .code yX0_endsAtBook cX0_endsAtBook 2 (some .boolean), .constant RX0 110 (-100000), .methodLink RX0 111 yX0_ended, .instanceMethod yX0_ended, .selects RX0 yX0_ended yX0_ended, .code yX0_ended cX0_ended 2 (some .boolean), .fieldLink RX0 34 "FlightBooks" "faultCount" "I"] ++ wsX00)
def wsX0_isToldLoad : List Cond := .code yX0_isToldLoad cX0_isToldLoad 1 (some .boolean) :: ([])
def wsX0_cut : List Cond := .code yX0_cut cX0_cut 2 (some .int) :: ([.constant RX0 118 (65535), .constant RX0 119 (-2000000), .constant RX0 120 (2000000), .methodLink RX0 40 yX0_nearest, .static yX0_nearest, .initialized RX0, .code yX0_nearest cX0_nearest 3 (some .int), .methodLink RX0 121 Lib.Math.min.name, .static Lib.Math.min.name, .initialized "java/lang/Math", .code Lib.Math.min.name Lib.Math.min.code 2 (some .int), .methodLink RX0 126 Lib.Math.max.name, .static Lib.Math.max.name, .code Lib.Math.max.name Lib.Math.max.code 2 (some .int)])
def wsX0_put : List Cond := .code yX0_put cX0_put 4 none :: ([.fieldLink RX0 15 "FlightBooks" "held" "[[I", .methodLink RX0 86 yX0_cut, .static yX0_cut, .initialized RX0, .code yX0_cut cX0_cut 2 (some .int), .constant RX0 118 (65535), .constant RX0 119 (-2000000), .constant RX0 120 (2000000), .methodLink RX0 40 yX0_nearest, .static yX0_nearest, .code yX0_nearest cX0_nearest 3 (some .int), .methodLink RX0 121 Lib.Math.min.name, .static Lib.Math.min.name, .initialized "java/lang/Math", .code Lib.Math.min.name Lib.Math.min.code 2 (some .int), .methodLink RX0 126 Lib.Math.max.name, .static Lib.Math.max.name, .code Lib.Math.max.name Lib.Math.max.code 2 (some .int)] ++ wsX00)
def wsX0_write_r1 : List Cond := [Cond.constant RX0 57 (-300000), Cond.fieldLink RX0 37 "FlightBooks" "latestFault" "I", Cond.methodLink RX0 53 yX0_isBook, Cond.static yX0_isBook, Cond.initialized RX0, Cond.code yX0_isBook cX0_isBook 1 (some .boolean), Cond.methodLink RX0 65 yX0_isToldLoad, Cond.static yX0_isToldLoad, Cond.code yX0_isToldLoad cX0_isToldLoad 1 (some .boolean), Cond.methodLink RX0 61 yX0_endsAtLine, Cond.instanceMethod yX0_endsAtLine, Cond.selects RX0 yX0_endsAtLine yX0_endsAtLine, Cond.code yX0_endsAtLine cX0_endsAtLine 3 (some .boolean), Cond.fieldLink RX0 9 "FlightBooks" "lineCounts" "[I", Cond.constant RX0 114 (-200000), Cond.methodLink RX0 58 yX0_endsAtBook, Cond.instanceMethod yX0_endsAtBook, Cond.selects RX0 yX0_endsAtBook yX0_endsAtBook, Cond.code yX0_endsAtBook cX0_endsAtBook 2 (some .boolean), Cond.constant RX0 110 (-100000), Cond.methodLink RX0 111 yX0_ended, Cond.instanceMethod yX0_ended, Cond.selects RX0 yX0_ended yX0_ended, Cond.code yX0_ended cX0_ended 2 (some .boolean)]
def wsX0_write_r2 : List Cond := [Cond.fieldLink RX0 34 "FlightBooks" "faultCount" "I", Cond.methodLink RX0 68 yX0_put, Cond.instanceMethod yX0_put, Cond.selects RX0 yX0_put yX0_put, Cond.code yX0_put cX0_put 4 none, Cond.fieldLink RX0 15 "FlightBooks" "held" "[[I", Cond.methodLink RX0 86 yX0_cut, Cond.static yX0_cut, Cond.code yX0_cut cX0_cut 2 (some .int), Cond.constant RX0 118 (65535), Cond.constant RX0 119 (-2000000), Cond.constant RX0 120 (2000000), Cond.methodLink RX0 40 yX0_nearest, Cond.static yX0_nearest, Cond.code yX0_nearest cX0_nearest 3 (some .int), Cond.methodLink RX0 121 Lib.Math.min.name, Cond.static Lib.Math.min.name, Cond.initialized "java/lang/Math", Cond.code Lib.Math.min.name Lib.Math.min.code 2 (some .int), Cond.methodLink RX0 126 Lib.Math.max.name, Cond.static Lib.Math.max.name, Cond.code Lib.Math.max.name Lib.Math.max.code 2 (some .int)]
def wsX0_write : List Cond := .code yX0_write cX0_write 4 (some .int) :: ((wsX0_write_r1 ++ wsX0_write_r2) ++ wsX00)
def wsX0_changedGate : List Cond := .code yX0_changedGate cX0_changedGate 3 (some .int) :: ([])
def wsX0_changed : List Cond := .code yX0_changed cX0_changed 5 (some .int) :: ([.methodLink RX0 129 yX0_changedGate, .static yX0_changedGate, .initialized RX0, .code yX0_changedGate cX0_changedGate 3 (some .int)])
def wsX0_change_r1 : List Cond := [Cond.constant RX0 57 (-300000), Cond.fieldLink RX0 37 "FlightBooks" "latestFault" "I", Cond.fieldLink RX0 15 "FlightBooks" "held" "[[I", Cond.methodLink RX0 53 yX0_isBook, Cond.static yX0_isBook, Cond.initialized RX0, Cond.code yX0_isBook cX0_isBook 1 (some .boolean), Cond.methodLink RX0 65 yX0_isToldLoad, Cond.static yX0_isToldLoad, Cond.code yX0_isToldLoad cX0_isToldLoad 1 (some .boolean), Cond.methodLink RX0 61 yX0_endsAtLine, Cond.instanceMethod yX0_endsAtLine, Cond.selects RX0 yX0_endsAtLine yX0_endsAtLine, Cond.code yX0_endsAtLine cX0_endsAtLine 3 (some .boolean), Cond.fieldLink RX0 9 "FlightBooks" "lineCounts" "[I", Cond.constant RX0 114 (-200000), Cond.methodLink RX0 58 yX0_endsAtBook, Cond.instanceMethod yX0_endsAtBook, Cond.selects RX0 yX0_endsAtBook yX0_endsAtBook, Cond.code yX0_endsAtBook cX0_endsAtBook 2 (some .boolean), Cond.constant RX0 110 (-100000), Cond.methodLink RX0 111 yX0_ended, Cond.instanceMethod yX0_ended, Cond.selects RX0 yX0_ended yX0_ended]
def wsX0_change_r2 : List Cond := [Cond.code yX0_ended cX0_ended 2 (some .boolean), Cond.fieldLink RX0 34 "FlightBooks" "faultCount" "I", Cond.methodLink RX0 72 yX0_changed, Cond.static yX0_changed, Cond.code yX0_changed cX0_changed 5 (some .int), Cond.methodLink RX0 129 yX0_changedGate, Cond.static yX0_changedGate, Cond.code yX0_changedGate cX0_changedGate 3 (some .int), Cond.methodLink RX0 68 yX0_put, Cond.instanceMethod yX0_put, Cond.selects RX0 yX0_put yX0_put, Cond.code yX0_put cX0_put 4 none, Cond.methodLink RX0 86 yX0_cut, Cond.static yX0_cut, Cond.code yX0_cut cX0_cut 2 (some .int), Cond.constant RX0 118 (65535), Cond.constant RX0 119 (-2000000), Cond.constant RX0 120 (2000000), Cond.methodLink RX0 40 yX0_nearest, Cond.static yX0_nearest, Cond.code yX0_nearest cX0_nearest 3 (some .int), Cond.methodLink RX0 121 Lib.Math.min.name, Cond.static Lib.Math.min.name, Cond.initialized "java/lang/Math"]
def wsX0_change_r3 : List Cond := [Cond.code Lib.Math.min.name Lib.Math.min.code 2 (some .int), Cond.methodLink RX0 126 Lib.Math.max.name, Cond.static Lib.Math.max.name, Cond.code Lib.Math.max.name Lib.Math.max.code 2 (some .int)]
def wsX0_change : List Cond := .code yX0_change cX0_change 5 (some .int) :: ((wsX0_change_r1 ++ (wsX0_change_r2 ++ wsX0_change_r3)) ++ wsX00)
def wsX0_tally : List Cond := .code yX0_tally cX0_tally 4 (some .int) :: ([.constant RX0 57 (-300000), .fieldLink RX0 37 "FlightBooks" "latestFault" "I", .fieldLink RX0 9 "FlightBooks" "lineCounts" "[I", .fieldLink RX0 15 "FlightBooks" "held" "[[I", .methodLink RX0 53 yX0_isBook, .static yX0_isBook, .initialized RX0, .code yX0_isBook cX0_isBook 1 (some .boolean), .methodLink RX0 58 yX0_endsAtBook, .instanceMethod yX0_endsAtBook, .selects RX0 yX0_endsAtBook yX0_endsAtBook, .code yX0_endsAtBook cX0_endsAtBook 2 (some .boolean), .constant RX0 110 (-100000), .methodLink RX0 111 yX0_ended, .instanceMethod yX0_ended, .selects RX0 yX0_ended yX0_ended, .code yX0_ended cX0_ended 2 (some .boolean), .fieldLink RX0 34 "FlightBooks" "faultCount" "I"] ++ wsX00)
def wsX0_told : List Cond := .code yX0_told cX0_told 2 (some .int) :: ([.methodLink RX0 40 yX0_nearest, .static yX0_nearest, .initialized RX0, .code yX0_nearest cX0_nearest 3 (some .int), .methodLink RX0 121 Lib.Math.min.name, .static Lib.Math.min.name, .initialized "java/lang/Math", .code Lib.Math.min.name Lib.Math.min.code 2 (some .int), .methodLink RX0 126 Lib.Math.max.name, .static Lib.Math.max.name, .code Lib.Math.max.name Lib.Math.max.code 2 (some .int)])
def wsX0_copy_r1 : List Cond := [Cond.constant RX0 57 (-300000), Cond.fieldLink RX0 37 "FlightBooks" "latestFault" "I", Cond.fieldLink RX0 9 "FlightBooks" "lineCounts" "[I", Cond.fieldLink RX0 15 "FlightBooks" "held" "[[I", Cond.methodLink RX0 53 yX0_isBook, Cond.static yX0_isBook, Cond.initialized RX0, Cond.code yX0_isBook cX0_isBook 1 (some .boolean), Cond.methodLink RX0 58 yX0_endsAtBook, Cond.instanceMethod yX0_endsAtBook, Cond.selects RX0 yX0_endsAtBook yX0_endsAtBook, Cond.code yX0_endsAtBook cX0_endsAtBook 2 (some .boolean), Cond.constant RX0 110 (-100000), Cond.methodLink RX0 111 yX0_ended, Cond.instanceMethod yX0_ended, Cond.selects RX0 yX0_ended yX0_ended, Cond.code yX0_ended cX0_ended 2 (some .boolean), Cond.fieldLink RX0 34 "FlightBooks" "faultCount" "I", Cond.methodLink RX0 61 yX0_endsAtLine, Cond.instanceMethod yX0_endsAtLine, Cond.selects RX0 yX0_endsAtLine yX0_endsAtLine, Cond.code yX0_endsAtLine cX0_endsAtLine 3 (some .boolean), Cond.constant RX0 114 (-200000), Cond.methodLink RX0 76 yX0_told]
def wsX0_copy_r2 : List Cond := [Cond.static yX0_told, Cond.code yX0_told cX0_told 2 (some .int), Cond.methodLink RX0 40 yX0_nearest, Cond.static yX0_nearest, Cond.code yX0_nearest cX0_nearest 3 (some .int), Cond.methodLink RX0 121 Lib.Math.min.name, Cond.static Lib.Math.min.name, Cond.initialized "java/lang/Math", Cond.code Lib.Math.min.name Lib.Math.min.code 2 (some .int), Cond.methodLink RX0 126 Lib.Math.max.name, Cond.static Lib.Math.max.name, Cond.code Lib.Math.max.name Lib.Math.max.code 2 (some .int), Cond.methodLink RX0 68 yX0_put, Cond.instanceMethod yX0_put, Cond.selects RX0 yX0_put yX0_put, Cond.code yX0_put cX0_put 4 none, Cond.methodLink RX0 86 yX0_cut, Cond.static yX0_cut, Cond.code yX0_cut cX0_cut 2 (some .int), Cond.constant RX0 118 (65535), Cond.constant RX0 119 (-2000000), Cond.constant RX0 120 (2000000)]
def wsX0_copy : List Cond := .code yX0_copy cX0_copy 4 (some .int) :: ((wsX0_copy_r1 ++ wsX0_copy_r2) ++ wsX00)
def wsX0_isChamber : List Cond := .code yX0_isChamber cX0_isChamber 2 (some .boolean) :: ([.fieldLink RX0 44 "FlightBooks" "chamberCount" "I"] ++ wsX00)
def wsX0_isLast : List Cond := .code yX0_isLast cX0_isLast 2 (some .boolean) :: ([.fieldLink RX0 44 "FlightBooks" "chamberCount" "I"] ++ wsX00)
def wsX0_sluice_r1 : List Cond := [Cond.constant RX0 57 (-300000), Cond.fieldLink RX0 37 "FlightBooks" "latestFault" "I", Cond.fieldLink RX0 15 "FlightBooks" "held" "[[I", Cond.methodLink RX0 80 yX0_isChamber, Cond.instanceMethod yX0_isChamber, Cond.selects RX0 yX0_isChamber yX0_isChamber, Cond.initialized RX0, Cond.code yX0_isChamber cX0_isChamber 2 (some .boolean), Cond.fieldLink RX0 44 "FlightBooks" "chamberCount" "I", Cond.methodLink RX0 61 yX0_endsAtLine, Cond.instanceMethod yX0_endsAtLine, Cond.selects RX0 yX0_endsAtLine yX0_endsAtLine, Cond.code yX0_endsAtLine cX0_endsAtLine 3 (some .boolean), Cond.fieldLink RX0 9 "FlightBooks" "lineCounts" "[I", Cond.constant RX0 114 (-200000), Cond.methodLink RX0 58 yX0_endsAtBook, Cond.instanceMethod yX0_endsAtBook, Cond.selects RX0 yX0_endsAtBook yX0_endsAtBook, Cond.code yX0_endsAtBook cX0_endsAtBook 2 (some .boolean), Cond.constant RX0 110 (-100000), Cond.methodLink RX0 111 yX0_ended, Cond.instanceMethod yX0_ended, Cond.selects RX0 yX0_ended yX0_ended, Cond.code yX0_ended cX0_ended 2 (some .boolean)]
def wsX0_sluice_r2 : List Cond := [Cond.fieldLink RX0 34 "FlightBooks" "faultCount" "I", Cond.methodLink RX0 68 yX0_put, Cond.instanceMethod yX0_put, Cond.selects RX0 yX0_put yX0_put, Cond.code yX0_put cX0_put 4 none, Cond.methodLink RX0 86 yX0_cut, Cond.static yX0_cut, Cond.code yX0_cut cX0_cut 2 (some .int), Cond.constant RX0 118 (65535), Cond.constant RX0 119 (-2000000), Cond.constant RX0 120 (2000000), Cond.methodLink RX0 40 yX0_nearest, Cond.static yX0_nearest, Cond.code yX0_nearest cX0_nearest 3 (some .int), Cond.methodLink RX0 121 Lib.Math.min.name, Cond.static Lib.Math.min.name, Cond.initialized "java/lang/Math", Cond.code Lib.Math.min.name Lib.Math.min.code 2 (some .int), Cond.methodLink RX0 126 Lib.Math.max.name, Cond.static Lib.Math.max.name, Cond.code Lib.Math.max.name Lib.Math.max.code 2 (some .int), Cond.methodLink RX0 83 yX0_isLast, Cond.instanceMethod yX0_isLast, Cond.selects RX0 yX0_isLast yX0_isLast]
def wsX0_sluice_r3 : List Cond := [Cond.code yX0_isLast cX0_isLast 2 (some .boolean)]
def wsX0_sluice : List Cond := .code yX0_sluice cX0_sluice 3 (some .int) :: ((wsX0_sluice_r1 ++ (wsX0_sluice_r2 ++ wsX0_sluice_r3)) ++ wsX00)
def wsX0_open_r1 : List Cond := [Cond.constant RX0 57 (-300000), Cond.fieldLink RX0 37 "FlightBooks" "latestFault" "I", Cond.fieldLink RX0 15 "FlightBooks" "held" "[[I", Cond.methodLink RX0 80 yX0_isChamber, Cond.instanceMethod yX0_isChamber, Cond.selects RX0 yX0_isChamber yX0_isChamber, Cond.initialized RX0, Cond.code yX0_isChamber cX0_isChamber 2 (some .boolean), Cond.fieldLink RX0 44 "FlightBooks" "chamberCount" "I", Cond.methodLink RX0 61 yX0_endsAtLine, Cond.instanceMethod yX0_endsAtLine, Cond.selects RX0 yX0_endsAtLine yX0_endsAtLine, Cond.code yX0_endsAtLine cX0_endsAtLine 3 (some .boolean), Cond.fieldLink RX0 9 "FlightBooks" "lineCounts" "[I", Cond.constant RX0 114 (-200000), Cond.methodLink RX0 58 yX0_endsAtBook, Cond.instanceMethod yX0_endsAtBook, Cond.selects RX0 yX0_endsAtBook yX0_endsAtBook, Cond.code yX0_endsAtBook cX0_endsAtBook 2 (some .boolean), Cond.constant RX0 110 (-100000), Cond.methodLink RX0 111 yX0_ended, Cond.instanceMethod yX0_ended, Cond.selects RX0 yX0_ended yX0_ended, Cond.code yX0_ended cX0_ended 2 (some .boolean)]
def wsX0_open_r2 : List Cond := [Cond.fieldLink RX0 34 "FlightBooks" "faultCount" "I", Cond.methodLink RX0 83 yX0_isLast, Cond.instanceMethod yX0_isLast, Cond.selects RX0 yX0_isLast yX0_isLast, Cond.code yX0_isLast cX0_isLast 2 (some .boolean), Cond.methodLink RX0 68 yX0_put, Cond.instanceMethod yX0_put, Cond.selects RX0 yX0_put yX0_put, Cond.code yX0_put cX0_put 4 none, Cond.methodLink RX0 86 yX0_cut, Cond.static yX0_cut, Cond.code yX0_cut cX0_cut 2 (some .int), Cond.constant RX0 118 (65535), Cond.constant RX0 119 (-2000000), Cond.constant RX0 120 (2000000), Cond.methodLink RX0 40 yX0_nearest, Cond.static yX0_nearest, Cond.code yX0_nearest cX0_nearest 3 (some .int), Cond.methodLink RX0 121 Lib.Math.min.name, Cond.static Lib.Math.min.name, Cond.initialized "java/lang/Math", Cond.code Lib.Math.min.name Lib.Math.min.code 2 (some .int), Cond.methodLink RX0 126 Lib.Math.max.name, Cond.static Lib.Math.max.name]
def wsX0_open_r3 : List Cond := [Cond.code Lib.Math.max.name Lib.Math.max.code 2 (some .int)]
def wsX0_open : List Cond := .code yX0_open cX0_open 3 (some .int) :: ((wsX0_open_r1 ++ (wsX0_open_r2 ++ wsX0_open_r3)) ++ wsX00)
def wsX0_shut_r1 : List Cond := [Cond.constant RX0 57 (-300000), Cond.fieldLink RX0 37 "FlightBooks" "latestFault" "I", Cond.fieldLink RX0 15 "FlightBooks" "held" "[[I", Cond.methodLink RX0 80 yX0_isChamber, Cond.instanceMethod yX0_isChamber, Cond.selects RX0 yX0_isChamber yX0_isChamber, Cond.initialized RX0, Cond.code yX0_isChamber cX0_isChamber 2 (some .boolean), Cond.fieldLink RX0 44 "FlightBooks" "chamberCount" "I", Cond.methodLink RX0 61 yX0_endsAtLine, Cond.instanceMethod yX0_endsAtLine, Cond.selects RX0 yX0_endsAtLine yX0_endsAtLine, Cond.code yX0_endsAtLine cX0_endsAtLine 3 (some .boolean), Cond.fieldLink RX0 9 "FlightBooks" "lineCounts" "[I", Cond.constant RX0 114 (-200000), Cond.methodLink RX0 58 yX0_endsAtBook, Cond.instanceMethod yX0_endsAtBook, Cond.selects RX0 yX0_endsAtBook yX0_endsAtBook, Cond.code yX0_endsAtBook cX0_endsAtBook 2 (some .boolean), Cond.constant RX0 110 (-100000), Cond.methodLink RX0 111 yX0_ended, Cond.instanceMethod yX0_ended, Cond.selects RX0 yX0_ended yX0_ended, Cond.code yX0_ended cX0_ended 2 (some .boolean)]
def wsX0_shut_r2 : List Cond := [Cond.fieldLink RX0 34 "FlightBooks" "faultCount" "I", Cond.methodLink RX0 68 yX0_put, Cond.instanceMethod yX0_put, Cond.selects RX0 yX0_put yX0_put, Cond.code yX0_put cX0_put 4 none, Cond.methodLink RX0 86 yX0_cut, Cond.static yX0_cut, Cond.code yX0_cut cX0_cut 2 (some .int), Cond.constant RX0 118 (65535), Cond.constant RX0 119 (-2000000), Cond.constant RX0 120 (2000000), Cond.methodLink RX0 40 yX0_nearest, Cond.static yX0_nearest, Cond.code yX0_nearest cX0_nearest 3 (some .int), Cond.methodLink RX0 121 Lib.Math.min.name, Cond.static Lib.Math.min.name, Cond.initialized "java/lang/Math", Cond.code Lib.Math.min.name Lib.Math.min.code 2 (some .int), Cond.methodLink RX0 126 Lib.Math.max.name, Cond.static Lib.Math.max.name, Cond.code Lib.Math.max.name Lib.Math.max.code 2 (some .int)]
def wsX0_shut : List Cond := .code yX0_shut cX0_shut 3 (some .int) :: ((wsX0_shut_r1 ++ wsX0_shut_r2) ++ wsX00)
def wsX0_endsAtArrival_r1 : List Cond := [Cond.fieldLink RX0 15 "FlightBooks" "held" "[[I", Cond.methodLink RX0 61 yX0_endsAtLine, Cond.instanceMethod yX0_endsAtLine, Cond.selects RX0 yX0_endsAtLine yX0_endsAtLine, Cond.initialized RX0, Cond.code yX0_endsAtLine cX0_endsAtLine 3 (some .boolean), Cond.fieldLink RX0 9 "FlightBooks" "lineCounts" "[I", Cond.constant RX0 114 (-200000), Cond.methodLink RX0 58 yX0_endsAtBook, Cond.instanceMethod yX0_endsAtBook, Cond.selects RX0 yX0_endsAtBook yX0_endsAtBook, Cond.code yX0_endsAtBook cX0_endsAtBook 2 (some .boolean), Cond.constant RX0 110 (-100000), Cond.methodLink RX0 111 yX0_ended, Cond.instanceMethod yX0_ended, Cond.selects RX0 yX0_ended yX0_ended, Cond.code yX0_ended cX0_ended 2 (some .boolean), Cond.fieldLink RX0 34 "FlightBooks" "faultCount" "I", Cond.fieldLink RX0 37 "FlightBooks" "latestFault" "I", Cond.methodLink RX0 68 yX0_put, Cond.instanceMethod yX0_put, Cond.selects RX0 yX0_put yX0_put, Cond.code yX0_put cX0_put 4 none, Cond.methodLink RX0 86 yX0_cut]
def wsX0_endsAtArrival_r2 : List Cond := [Cond.static yX0_cut, Cond.code yX0_cut cX0_cut 2 (some .int), Cond.constant RX0 118 (65535), Cond.constant RX0 119 (-2000000), Cond.constant RX0 120 (2000000), Cond.methodLink RX0 40 yX0_nearest, Cond.static yX0_nearest, Cond.code yX0_nearest cX0_nearest 3 (some .int), Cond.methodLink RX0 121 Lib.Math.min.name, Cond.static Lib.Math.min.name, Cond.initialized "java/lang/Math", Cond.code Lib.Math.min.name Lib.Math.min.code 2 (some .int), Cond.methodLink RX0 126 Lib.Math.max.name, Cond.static Lib.Math.max.name, Cond.code Lib.Math.max.name Lib.Math.max.code 2 (some .int)]
def wsX0_endsAtArrival : List Cond := .code yX0_endsAtArrival cX0_endsAtArrival 4 (some .boolean) :: ((wsX0_endsAtArrival_r1 ++ wsX0_endsAtArrival_r2) ++ wsX00)
def wsX0_enter_r1 : List Cond := [Cond.constant RX0 57 (-300000), Cond.fieldLink RX0 37 "FlightBooks" "latestFault" "I", Cond.fieldLink RX0 15 "FlightBooks" "held" "[[I", Cond.methodLink RX0 86 yX0_cut, Cond.static yX0_cut, Cond.initialized RX0, Cond.code yX0_cut cX0_cut 2 (some .int), Cond.constant RX0 118 (65535), Cond.constant RX0 119 (-2000000), Cond.constant RX0 120 (2000000), Cond.methodLink RX0 40 yX0_nearest, Cond.static yX0_nearest, Cond.code yX0_nearest cX0_nearest 3 (some .int), Cond.methodLink RX0 121 Lib.Math.min.name, Cond.static Lib.Math.min.name, Cond.initialized "java/lang/Math", Cond.code Lib.Math.min.name Lib.Math.min.code 2 (some .int), Cond.methodLink RX0 126 Lib.Math.max.name, Cond.static Lib.Math.max.name, Cond.code Lib.Math.max.name Lib.Math.max.code 2 (some .int), Cond.methodLink RX0 61 yX0_endsAtLine, Cond.instanceMethod yX0_endsAtLine, Cond.selects RX0 yX0_endsAtLine yX0_endsAtLine, Cond.code yX0_endsAtLine cX0_endsAtLine 3 (some .boolean)]
def wsX0_enter_r2 : List Cond := [Cond.fieldLink RX0 9 "FlightBooks" "lineCounts" "[I", Cond.constant RX0 114 (-200000), Cond.methodLink RX0 58 yX0_endsAtBook, Cond.instanceMethod yX0_endsAtBook, Cond.selects RX0 yX0_endsAtBook yX0_endsAtBook, Cond.code yX0_endsAtBook cX0_endsAtBook 2 (some .boolean), Cond.constant RX0 110 (-100000), Cond.methodLink RX0 111 yX0_ended, Cond.instanceMethod yX0_ended, Cond.selects RX0 yX0_ended yX0_ended, Cond.code yX0_ended cX0_ended 2 (some .boolean), Cond.fieldLink RX0 34 "FlightBooks" "faultCount" "I", Cond.methodLink RX0 89 yX0_endsAtArrival, Cond.instanceMethod yX0_endsAtArrival, Cond.selects RX0 yX0_endsAtArrival yX0_endsAtArrival, Cond.code yX0_endsAtArrival cX0_endsAtArrival 4 (some .boolean), Cond.methodLink RX0 68 yX0_put, Cond.instanceMethod yX0_put, Cond.selects RX0 yX0_put yX0_put, Cond.code yX0_put cX0_put 4 none]
def wsX0_enter : List Cond := .code yX0_enter cX0_enter 3 (some .int) :: ((wsX0_enter_r1 ++ wsX0_enter_r2) ++ wsX00)
def wsX0_leave : List Cond := .code yX0_leave cX0_leave 3 (some .int) :: ([.fieldLink RX0 15 "FlightBooks" "held" "[[I", .methodLink RX0 68 yX0_put, .instanceMethod yX0_put, .selects RX0 yX0_put yX0_put, .initialized RX0, .code yX0_put cX0_put 4 none, .methodLink RX0 86 yX0_cut, .static yX0_cut, .code yX0_cut cX0_cut 2 (some .int), .constant RX0 118 (65535), .constant RX0 119 (-2000000), .constant RX0 120 (2000000), .methodLink RX0 40 yX0_nearest, .static yX0_nearest, .code yX0_nearest cX0_nearest 3 (some .int), .methodLink RX0 121 Lib.Math.min.name, .static Lib.Math.min.name, .initialized "java/lang/Math", .code Lib.Math.min.name Lib.Math.min.code 2 (some .int), .methodLink RX0 126 Lib.Math.max.name, .static Lib.Math.max.name, .code Lib.Math.max.name Lib.Math.max.code 2 (some .int)] ++ wsX00)
def wsX0_goOut_r1 : List Cond := [Cond.fieldLink RX0 37 "FlightBooks" "latestFault" "I", Cond.fieldLink RX0 28 "FlightBooks" "bargesOut" "I", Cond.fieldLink RX0 31 "FlightBooks" "eighthsOut" "I", Cond.fieldLink RX0 15 "FlightBooks" "held" "[[I", Cond.methodLink RX0 61 yX0_endsAtLine, Cond.instanceMethod yX0_endsAtLine, Cond.selects RX0 yX0_endsAtLine yX0_endsAtLine, Cond.initialized RX0, Cond.code yX0_endsAtLine cX0_endsAtLine 3 (some .boolean), Cond.fieldLink RX0 9 "FlightBooks" "lineCounts" "[I", Cond.constant RX0 114 (-200000), Cond.methodLink RX0 58 yX0_endsAtBook, Cond.instanceMethod yX0_endsAtBook, Cond.selects RX0 yX0_endsAtBook yX0_endsAtBook, Cond.code yX0_endsAtBook cX0_endsAtBook 2 (some .boolean), Cond.constant RX0 110 (-100000), Cond.methodLink RX0 111 yX0_ended, Cond.instanceMethod yX0_ended, Cond.selects RX0 yX0_ended yX0_ended, Cond.code yX0_ended cX0_ended 2 (some .boolean), Cond.fieldLink RX0 34 "FlightBooks" "faultCount" "I", Cond.methodLink RX0 132 yX0_leave, Cond.instanceMethod yX0_leave, Cond.selects RX0 yX0_leave yX0_leave]
def wsX0_goOut_r2 : List Cond := [Cond.code yX0_leave cX0_leave 3 (some .int), Cond.methodLink RX0 68 yX0_put, Cond.instanceMethod yX0_put, Cond.selects RX0 yX0_put yX0_put, Cond.code yX0_put cX0_put 4 none, Cond.methodLink RX0 86 yX0_cut, Cond.static yX0_cut, Cond.code yX0_cut cX0_cut 2 (some .int), Cond.constant RX0 118 (65535), Cond.constant RX0 119 (-2000000), Cond.constant RX0 120 (2000000), Cond.methodLink RX0 40 yX0_nearest, Cond.static yX0_nearest, Cond.code yX0_nearest cX0_nearest 3 (some .int), Cond.methodLink RX0 121 Lib.Math.min.name, Cond.static Lib.Math.min.name, Cond.initialized "java/lang/Math", Cond.code Lib.Math.min.name Lib.Math.min.code 2 (some .int), Cond.methodLink RX0 126 Lib.Math.max.name, Cond.static Lib.Math.max.name, Cond.code Lib.Math.max.name Lib.Math.max.code 2 (some .int)]
def wsX0_goOut : List Cond := .code yX0_goOut cX0_goOut 2 (some .int) :: ((wsX0_goOut_r1 ++ wsX0_goOut_r2) ++ wsX00)
def wsX0_goOn_r1 : List Cond := [Cond.fieldLink RX0 37 "FlightBooks" "latestFault" "I", Cond.fieldLink RX0 15 "FlightBooks" "held" "[[I", Cond.methodLink RX0 61 yX0_endsAtLine, Cond.instanceMethod yX0_endsAtLine, Cond.selects RX0 yX0_endsAtLine yX0_endsAtLine, Cond.initialized RX0, Cond.code yX0_endsAtLine cX0_endsAtLine 3 (some .boolean), Cond.fieldLink RX0 9 "FlightBooks" "lineCounts" "[I", Cond.constant RX0 114 (-200000), Cond.methodLink RX0 58 yX0_endsAtBook, Cond.instanceMethod yX0_endsAtBook, Cond.selects RX0 yX0_endsAtBook yX0_endsAtBook, Cond.code yX0_endsAtBook cX0_endsAtBook 2 (some .boolean), Cond.constant RX0 110 (-100000), Cond.methodLink RX0 111 yX0_ended, Cond.instanceMethod yX0_ended, Cond.selects RX0 yX0_ended yX0_ended, Cond.code yX0_ended cX0_ended 2 (some .boolean), Cond.fieldLink RX0 34 "FlightBooks" "faultCount" "I", Cond.methodLink RX0 89 yX0_endsAtArrival, Cond.instanceMethod yX0_endsAtArrival, Cond.selects RX0 yX0_endsAtArrival yX0_endsAtArrival, Cond.code yX0_endsAtArrival cX0_endsAtArrival 4 (some .boolean), Cond.methodLink RX0 68 yX0_put]
def wsX0_goOn_r2 : List Cond := [Cond.instanceMethod yX0_put, Cond.selects RX0 yX0_put yX0_put, Cond.code yX0_put cX0_put 4 none, Cond.methodLink RX0 86 yX0_cut, Cond.static yX0_cut, Cond.code yX0_cut cX0_cut 2 (some .int), Cond.constant RX0 118 (65535), Cond.constant RX0 119 (-2000000), Cond.constant RX0 120 (2000000), Cond.methodLink RX0 40 yX0_nearest, Cond.static yX0_nearest, Cond.code yX0_nearest cX0_nearest 3 (some .int), Cond.methodLink RX0 121 Lib.Math.min.name, Cond.static Lib.Math.min.name, Cond.initialized "java/lang/Math", Cond.code Lib.Math.min.name Lib.Math.min.code 2 (some .int), Cond.methodLink RX0 126 Lib.Math.max.name, Cond.static Lib.Math.max.name, Cond.code Lib.Math.max.name Lib.Math.max.code 2 (some .int), Cond.methodLink RX0 132 yX0_leave, Cond.instanceMethod yX0_leave, Cond.selects RX0 yX0_leave yX0_leave, Cond.code yX0_leave cX0_leave 3 (some .int)]
def wsX0_goOn : List Cond := .code yX0_goOn cX0_goOn 3 (some .int) :: ((wsX0_goOn_r1 ++ wsX0_goOn_r2) ++ wsX00)
def wsX0_pass_r1 : List Cond := [Cond.constant RX0 57 (-300000), Cond.fieldLink RX0 37 "FlightBooks" "latestFault" "I", Cond.fieldLink RX0 15 "FlightBooks" "held" "[[I", Cond.methodLink RX0 80 yX0_isChamber, Cond.instanceMethod yX0_isChamber, Cond.selects RX0 yX0_isChamber yX0_isChamber, Cond.initialized RX0, Cond.code yX0_isChamber cX0_isChamber 2 (some .boolean), Cond.fieldLink RX0 44 "FlightBooks" "chamberCount" "I", Cond.methodLink RX0 61 yX0_endsAtLine, Cond.instanceMethod yX0_endsAtLine, Cond.selects RX0 yX0_endsAtLine yX0_endsAtLine, Cond.code yX0_endsAtLine cX0_endsAtLine 3 (some .boolean), Cond.fieldLink RX0 9 "FlightBooks" "lineCounts" "[I", Cond.constant RX0 114 (-200000), Cond.methodLink RX0 58 yX0_endsAtBook, Cond.instanceMethod yX0_endsAtBook, Cond.selects RX0 yX0_endsAtBook yX0_endsAtBook, Cond.code yX0_endsAtBook cX0_endsAtBook 2 (some .boolean), Cond.constant RX0 110 (-100000), Cond.methodLink RX0 111 yX0_ended, Cond.instanceMethod yX0_ended, Cond.selects RX0 yX0_ended yX0_ended, Cond.code yX0_ended cX0_ended 2 (some .boolean)]
def wsX0_pass_r2 : List Cond := [Cond.fieldLink RX0 34 "FlightBooks" "faultCount" "I", Cond.methodLink RX0 83 yX0_isLast, Cond.instanceMethod yX0_isLast, Cond.selects RX0 yX0_isLast yX0_isLast, Cond.code yX0_isLast cX0_isLast 2 (some .boolean), Cond.methodLink RX0 93 yX0_goOut, Cond.instanceMethod yX0_goOut, Cond.selects RX0 yX0_goOut yX0_goOut, Cond.code yX0_goOut cX0_goOut 2 (some .int), Cond.fieldLink RX0 28 "FlightBooks" "bargesOut" "I", Cond.fieldLink RX0 31 "FlightBooks" "eighthsOut" "I", Cond.methodLink RX0 132 yX0_leave, Cond.instanceMethod yX0_leave, Cond.selects RX0 yX0_leave yX0_leave, Cond.code yX0_leave cX0_leave 3 (some .int), Cond.methodLink RX0 68 yX0_put, Cond.instanceMethod yX0_put, Cond.selects RX0 yX0_put yX0_put, Cond.code yX0_put cX0_put 4 none, Cond.methodLink RX0 86 yX0_cut, Cond.static yX0_cut, Cond.code yX0_cut cX0_cut 2 (some .int), Cond.constant RX0 118 (65535), Cond.constant RX0 119 (-2000000)]
def wsX0_pass_r3 : List Cond := [Cond.constant RX0 120 (2000000), Cond.methodLink RX0 40 yX0_nearest, Cond.static yX0_nearest, Cond.code yX0_nearest cX0_nearest 3 (some .int), Cond.methodLink RX0 121 Lib.Math.min.name, Cond.static Lib.Math.min.name, Cond.initialized "java/lang/Math", Cond.code Lib.Math.min.name Lib.Math.min.code 2 (some .int), Cond.methodLink RX0 126 Lib.Math.max.name, Cond.static Lib.Math.max.name, Cond.code Lib.Math.max.name Lib.Math.max.code 2 (some .int), Cond.methodLink RX0 97 yX0_goOn, Cond.instanceMethod yX0_goOn, Cond.selects RX0 yX0_goOn yX0_goOn, Cond.code yX0_goOn cX0_goOn 3 (some .int), Cond.methodLink RX0 89 yX0_endsAtArrival, Cond.instanceMethod yX0_endsAtArrival, Cond.selects RX0 yX0_endsAtArrival yX0_endsAtArrival, Cond.code yX0_endsAtArrival cX0_endsAtArrival 4 (some .boolean)]
def wsX0_pass : List Cond := .code yX0_pass cX0_pass 2 (some .int) :: ((wsX0_pass_r1 ++ (wsX0_pass_r2 ++ wsX0_pass_r3)) ++ wsX00)
def wsX0_survey : List Cond := .code yX0_survey cX0_survey 4 (some .int) :: ([.fieldLink RX0 18 "FlightBooks" "places" "[[I", .fieldLink RX0 21 "FlightBooks" "rowCount" "I", .fieldLink RX0 25 "FlightBooks" "columnCount" "I", .methodLink RX0 47 yJ7_fill_53178, .static yJ7_fill_53178, .initialized RJ7, .code yJ7_fill_53178 cJ7_fill_53178 4 none] ++ wsX00)
def wsX0_endsAtRow : List Cond := .code yX0_endsAtRow cX0_endsAtRow 2 (some .boolean) :: ([.fieldLink RX0 21 "FlightBooks" "rowCount" "I", .constant RX0 115 (-100005), .constant RX0 116 (-200005), .methodLink RX0 111 yX0_ended, .instanceMethod yX0_ended, .selects RX0 yX0_ended yX0_ended, .initialized RX0, .code yX0_ended cX0_ended 2 (some .boolean), .fieldLink RX0 34 "FlightBooks" "faultCount" "I", .fieldLink RX0 37 "FlightBooks" "latestFault" "I"] ++ wsX00)
def wsX0_endsAtPlace : List Cond := .code yX0_endsAtPlace cX0_endsAtPlace 3 (some .boolean) :: ([.fieldLink RX0 25 "FlightBooks" "columnCount" "I", .constant RX0 117 (-200006), .methodLink RX0 103 yX0_endsAtRow, .instanceMethod yX0_endsAtRow, .selects RX0 yX0_endsAtRow yX0_endsAtRow, .initialized RX0, .code yX0_endsAtRow cX0_endsAtRow 2 (some .boolean), .fieldLink RX0 21 "FlightBooks" "rowCount" "I", .constant RX0 115 (-100005), .constant RX0 116 (-200005), .methodLink RX0 111 yX0_ended, .instanceMethod yX0_ended, .selects RX0 yX0_ended yX0_ended, .code yX0_ended cX0_ended 2 (some .boolean), .fieldLink RX0 34 "FlightBooks" "faultCount" "I", .fieldLink RX0 37 "FlightBooks" "latestFault" "I"] ++ wsX00)
def wsX0_note_r1 : List Cond := [Cond.constant RX0 57 (-300000), Cond.fieldLink RX0 37 "FlightBooks" "latestFault" "I", Cond.fieldLink RX0 18 "FlightBooks" "places" "[[I", Cond.fieldLink RX0 15 "FlightBooks" "held" "[[I", Cond.methodLink RX0 53 yX0_isBook, Cond.static yX0_isBook, Cond.initialized RX0, Cond.code yX0_isBook cX0_isBook 1 (some .boolean), Cond.methodLink RX0 61 yX0_endsAtLine, Cond.instanceMethod yX0_endsAtLine, Cond.selects RX0 yX0_endsAtLine yX0_endsAtLine, Cond.code yX0_endsAtLine cX0_endsAtLine 3 (some .boolean), Cond.fieldLink RX0 9 "FlightBooks" "lineCounts" "[I", Cond.constant RX0 114 (-200000), Cond.methodLink RX0 58 yX0_endsAtBook, Cond.instanceMethod yX0_endsAtBook, Cond.selects RX0 yX0_endsAtBook yX0_endsAtBook, Cond.code yX0_endsAtBook cX0_endsAtBook 2 (some .boolean), Cond.constant RX0 110 (-100000), Cond.methodLink RX0 111 yX0_ended, Cond.instanceMethod yX0_ended, Cond.selects RX0 yX0_ended yX0_ended, Cond.code yX0_ended cX0_ended 2 (some .boolean), Cond.fieldLink RX0 34 "FlightBooks" "faultCount" "I"]
def wsX0_note_r2 : List Cond := [Cond.methodLink RX0 100 yX0_endsAtPlace, Cond.instanceMethod yX0_endsAtPlace, Cond.selects RX0 yX0_endsAtPlace yX0_endsAtPlace, Cond.code yX0_endsAtPlace cX0_endsAtPlace 3 (some .boolean), Cond.fieldLink RX0 25 "FlightBooks" "columnCount" "I", Cond.constant RX0 117 (-200006), Cond.methodLink RX0 103 yX0_endsAtRow, Cond.instanceMethod yX0_endsAtRow, Cond.selects RX0 yX0_endsAtRow yX0_endsAtRow, Cond.code yX0_endsAtRow cX0_endsAtRow 2 (some .boolean), Cond.fieldLink RX0 21 "FlightBooks" "rowCount" "I", Cond.constant RX0 115 (-100005), Cond.constant RX0 116 (-200005)]
def wsX0_note : List Cond := .code yX0_note cX0_note 5 (some .int) :: ((wsX0_note_r1 ++ wsX0_note_r2) ++ wsX00)
def wsX0_chart : List Cond := .code yX0_chart cX0_chart 3 (some .int) :: ([.fieldLink RX0 37 "FlightBooks" "latestFault" "I", .fieldLink RX0 18 "FlightBooks" "places" "[[I", .methodLink RX0 100 yX0_endsAtPlace, .instanceMethod yX0_endsAtPlace, .selects RX0 yX0_endsAtPlace yX0_endsAtPlace, .initialized RX0, .code yX0_endsAtPlace cX0_endsAtPlace 3 (some .boolean), .fieldLink RX0 25 "FlightBooks" "columnCount" "I", .constant RX0 117 (-200006), .methodLink RX0 103 yX0_endsAtRow, .instanceMethod yX0_endsAtRow, .selects RX0 yX0_endsAtRow yX0_endsAtRow, .code yX0_endsAtRow cX0_endsAtRow 2 (some .boolean), .fieldLink RX0 21 "FlightBooks" "rowCount" "I", .constant RX0 115 (-100005), .constant RX0 116 (-200005), .methodLink RX0 111 yX0_ended, .instanceMethod yX0_ended, .selects RX0 yX0_ended yX0_ended, .code yX0_ended cX0_ended 2 (some .boolean), .fieldLink RX0 34 "FlightBooks" "faultCount" "I"] ++ wsX00)
def wsX0_columns : List Cond := .code yX0_columns cX0_columns 2 (some .int) :: ([.fieldLink RX0 37 "FlightBooks" "latestFault" "I", .fieldLink RX0 25 "FlightBooks" "columnCount" "I", .methodLink RX0 103 yX0_endsAtRow, .instanceMethod yX0_endsAtRow, .selects RX0 yX0_endsAtRow yX0_endsAtRow, .initialized RX0, .code yX0_endsAtRow cX0_endsAtRow 2 (some .boolean), .fieldLink RX0 21 "FlightBooks" "rowCount" "I", .constant RX0 115 (-100005), .constant RX0 116 (-200005), .methodLink RX0 111 yX0_ended, .instanceMethod yX0_ended, .selects RX0 yX0_ended yX0_ended, .code yX0_ended cX0_ended 2 (some .boolean), .fieldLink RX0 34 "FlightBooks" "faultCount" "I"] ++ wsX00)
def wsX0_booksKept : List Cond := .code yX0_booksKept cX0_booksKept 3 (some .int) :: ([.fieldLink RX0 9 "FlightBooks" "lineCounts" "[I"] ++ wsX00)
def wsX0_look : List Cond := .code yX0_look cX0_look 2 (some .int) :: ([.fieldLink RX0 44 "FlightBooks" "chamberCount" "I", .fieldLink RX0 28 "FlightBooks" "bargesOut" "I", .fieldLink RX0 31 "FlightBooks" "eighthsOut" "I", .fieldLink RX0 34 "FlightBooks" "faultCount" "I", .fieldLink RX0 37 "FlightBooks" "latestFault" "I", .constant RX0 57 (-300000), .methodLink RX0 106 yX0_booksKept, .instanceMethod yX0_booksKept, .selects RX0 yX0_booksKept yX0_booksKept, .initialized RX0, .code yX0_booksKept cX0_booksKept 3 (some .int), .fieldLink RX0 9 "FlightBooks" "lineCounts" "[I"] ++ wsX00)
def wsX1_init : List Cond := .code yX1_init cX1_init 3 none :: ([.methodLink RX1 1 objectInit, .instanceMethod objectInit, .code objectInit ⟨#[0xb1]⟩ 1 none, .arrayClass .int, .fieldLink RX1 7 "FlightBooksModel" "many" "[I", .fieldLink RX1 13 "FlightBooksModel" "cells" "[I", .fieldLink RX1 16 "FlightBooksModel" "places" "[I", .fieldLink RX1 19 "FlightBooksModel" "chambers" "I"] ++ wsX10)
def wsX1_isBook : List Cond := .code yX1_isBook cX1_isBook 1 (some .boolean) :: ([])
def wsX1_isChamber : List Cond := .code yX1_isChamber cX1_isChamber 2 (some .boolean) :: ([.fieldLink RX1 19 "FlightBooksModel" "chambers" "I"] ++ wsX10)
def wsX1_has : List Cond := .code yX1_has cX1_has 3 (some .boolean) :: ([.fieldLink RX1 23 "FlightBooksModel" "fault" "I", .fieldLink RX1 7 "FlightBooksModel" "many" "[I", .constant RX1 26 (-100000), .constant RX1 27 (-200000)] ++ wsX10)
def wsX1_cell : List Cond := .code yX1_cell cX1_cell 3 (some .int) :: ([.fieldLink RX1 13 "FlightBooksModel" "cells" "[I", .methodLink RX1 28 yX1_has, .instanceMethod yX1_has, .selects RX1 yX1_has yX1_has, .initialized RX1, .code yX1_has cX1_has 3 (some .boolean), .fieldLink RX1 23 "FlightBooksModel" "fault" "I", .fieldLink RX1 7 "FlightBooksModel" "many" "[I", .constant RX1 26 (-100000), .constant RX1 27 (-200000)] ++ wsX10)
def wsX1_cut : List Cond := .code yX1_cut cX1_cut 3 (some .int) :: ([.constant RX1 32 (65535), .constant RX1 33 (65536), .constant RX1 34 (2000000), .constant RX1 35 (-2000000)])
def wsX1_put : List Cond := .code yX1_put cX1_put 4 none :: ([.fieldLink RX1 13 "FlightBooksModel" "cells" "[I", .methodLink RX1 28 yX1_has, .instanceMethod yX1_has, .selects RX1 yX1_has yX1_has, .initialized RX1, .code yX1_has cX1_has 3 (some .boolean), .fieldLink RX1 23 "FlightBooksModel" "fault" "I", .fieldLink RX1 7 "FlightBooksModel" "many" "[I", .constant RX1 26 (-100000), .constant RX1 27 (-200000), .methodLink RX1 36 yX1_cut, .static yX1_cut, .code yX1_cut cX1_cut 3 (some .int), .constant RX1 32 (65535), .constant RX1 33 (65536), .constant RX1 34 (2000000), .constant RX1 35 (-2000000)] ++ wsX10)
def wsX1_more : List Cond := .code yX1_more cX1_more 4 none :: ([.fieldLink RX1 13 "FlightBooksModel" "cells" "[I", .methodLink RX1 28 yX1_has, .instanceMethod yX1_has, .selects RX1 yX1_has yX1_has, .initialized RX1, .code yX1_has cX1_has 3 (some .boolean), .fieldLink RX1 23 "FlightBooksModel" "fault" "I", .fieldLink RX1 7 "FlightBooksModel" "many" "[I", .constant RX1 26 (-100000), .constant RX1 27 (-200000), .methodLink RX1 36 yX1_cut, .static yX1_cut, .code yX1_cut cX1_cut 3 (some .int), .constant RX1 32 (65535), .constant RX1 33 (65536), .constant RX1 34 (2000000), .constant RX1 35 (-2000000)] ++ wsX10)
def wsX1_answer : List Cond := .code yX1_answer cX1_answer 2 (some .int) :: ([.fieldLink RX1 23 "FlightBooksModel" "fault" "I", .fieldLink RX1 40 "FlightBooksModel" "faults" "I", .fieldLink RX1 43 "FlightBooksModel" "latest" "I"] ++ wsX10)
def wsX1_keep : List Cond := .code yX1_keep cX1_keep 4 (some .int) :: ([.constant RX1 50 (-300000), .fieldLink RX1 7 "FlightBooksModel" "many" "[I", .fieldLink RX1 13 "FlightBooksModel" "cells" "[I", .methodLink RX1 46 yX1_isBook, .static yX1_isBook, .initialized RX1, .code yX1_isBook cX1_isBook 1 (some .boolean)] ++ wsX10)
def wsX1_lose : List Cond := .code yX1_lose cX1_lose 3 (some .int) :: ([.constant RX1 50 (-300000), .fieldLink RX1 7 "FlightBooksModel" "many" "[I", .methodLink RX1 46 yX1_isBook, .static yX1_isBook, .initialized RX1, .code yX1_isBook cX1_isBook 1 (some .boolean)] ++ wsX10)
def wsX1_lines : List Cond := .code yX1_lines cX1_lines 2 (some .int) :: ([.constant RX1 50 (-300000), .fieldLink RX1 7 "FlightBooksModel" "many" "[I", .constant RX1 26 (-100000), .fieldLink RX1 23 "FlightBooksModel" "fault" "I", .methodLink RX1 46 yX1_isBook, .static yX1_isBook, .initialized RX1, .code yX1_isBook cX1_isBook 1 (some .boolean), .methodLink RX1 51 yX1_answer, .instanceMethod yX1_answer, .selects RX1 yX1_answer yX1_answer, .code yX1_answer cX1_answer 2 (some .int), .fieldLink RX1 40 "FlightBooksModel" "faults" "I", .fieldLink RX1 43 "FlightBooksModel" "latest" "I"] ++ wsX10)
def wsX1_read : List Cond := .code yX1_read cX1_read 4 (some .int) :: ([.constant RX1 50 (-300000), .fieldLink RX1 23 "FlightBooksModel" "fault" "I", .methodLink RX1 46 yX1_isBook, .static yX1_isBook, .initialized RX1, .code yX1_isBook cX1_isBook 1 (some .boolean), .methodLink RX1 55 yX1_cell, .instanceMethod yX1_cell, .selects RX1 yX1_cell yX1_cell, .code yX1_cell cX1_cell 3 (some .int), .fieldLink RX1 13 "FlightBooksModel" "cells" "[I", .methodLink RX1 28 yX1_has, .instanceMethod yX1_has, .selects RX1 yX1_has yX1_has, .code yX1_has cX1_has 3 (some .boolean), .fieldLink RX1 7 "FlightBooksModel" "many" "[I", .constant RX1 26 (-100000), .constant RX1 27 (-200000), .methodLink RX1 51 yX1_answer, .instanceMethod yX1_answer, .selects RX1 yX1_answer yX1_answer, .code yX1_answer cX1_answer 2 (some .int), .fieldLink RX1 40 "FlightBooksModel" "faults" "I", .fieldLink RX1 43 "FlightBooksModel" "latest" "I"] ++ wsX10)
def wsX1_isLoad : List Cond := .code yX1_isLoad cX1_isLoad 1 (some .boolean) :: ([])
def wsX1_write_r1 : List Cond := [Cond.constant RX1 50 (-300000), Cond.fieldLink RX1 23 "FlightBooksModel" "fault" "I", Cond.methodLink RX1 46 yX1_isBook, Cond.static yX1_isBook, Cond.initialized RX1, Cond.code yX1_isBook cX1_isBook 1 (some .boolean), Cond.methodLink RX1 58 yX1_isLoad, Cond.static yX1_isLoad, Cond.code yX1_isLoad cX1_isLoad 1 (some .boolean), Cond.methodLink RX1 61 yX1_put, Cond.instanceMethod yX1_put, Cond.selects RX1 yX1_put yX1_put, Cond.code yX1_put cX1_put 4 none, Cond.fieldLink RX1 13 "FlightBooksModel" "cells" "[I", Cond.methodLink RX1 28 yX1_has, Cond.instanceMethod yX1_has, Cond.selects RX1 yX1_has yX1_has, Cond.code yX1_has cX1_has 3 (some .boolean), Cond.fieldLink RX1 7 "FlightBooksModel" "many" "[I", Cond.constant RX1 26 (-100000), Cond.constant RX1 27 (-200000), Cond.methodLink RX1 36 yX1_cut, Cond.static yX1_cut, Cond.code yX1_cut cX1_cut 3 (some .int)]
def wsX1_write_r2 : List Cond := [Cond.constant RX1 32 (65535), Cond.constant RX1 33 (65536), Cond.constant RX1 34 (2000000), Cond.constant RX1 35 (-2000000), Cond.methodLink RX1 51 yX1_answer, Cond.instanceMethod yX1_answer, Cond.selects RX1 yX1_answer yX1_answer, Cond.code yX1_answer cX1_answer 2 (some .int), Cond.fieldLink RX1 40 "FlightBooksModel" "faults" "I", Cond.fieldLink RX1 43 "FlightBooksModel" "latest" "I"]
def wsX1_write : List Cond := .code yX1_write cX1_write 4 (some .int) :: ((wsX1_write_r1 ++ wsX1_write_r2) ++ wsX10)
def wsX1_gate : List Cond := .code yX1_gate cX1_gate 4 (some .int) :: ([])
def wsX1_change_r1 : List Cond := [Cond.constant RX1 50 (-300000), Cond.fieldLink RX1 23 "FlightBooksModel" "fault" "I", Cond.methodLink RX1 46 yX1_isBook, Cond.static yX1_isBook, Cond.initialized RX1, Cond.code yX1_isBook cX1_isBook 1 (some .boolean), Cond.methodLink RX1 58 yX1_isLoad, Cond.static yX1_isLoad, Cond.code yX1_isLoad cX1_isLoad 1 (some .boolean), Cond.methodLink RX1 55 yX1_cell, Cond.instanceMethod yX1_cell, Cond.selects RX1 yX1_cell yX1_cell, Cond.code yX1_cell cX1_cell 3 (some .int), Cond.fieldLink RX1 13 "FlightBooksModel" "cells" "[I", Cond.methodLink RX1 28 yX1_has, Cond.instanceMethod yX1_has, Cond.selects RX1 yX1_has yX1_has, Cond.code yX1_has cX1_has 3 (some .boolean), Cond.fieldLink RX1 7 "FlightBooksModel" "many" "[I", Cond.constant RX1 26 (-100000), Cond.constant RX1 27 (-200000), Cond.methodLink RX1 65 yX1_gate, Cond.static yX1_gate, Cond.code yX1_gate cX1_gate 4 (some .int)]
def wsX1_change_r2 : List Cond := [Cond.methodLink RX1 61 yX1_put, Cond.instanceMethod yX1_put, Cond.selects RX1 yX1_put yX1_put, Cond.code yX1_put cX1_put 4 none, Cond.methodLink RX1 36 yX1_cut, Cond.static yX1_cut, Cond.code yX1_cut cX1_cut 3 (some .int), Cond.constant RX1 32 (65535), Cond.constant RX1 33 (65536), Cond.constant RX1 34 (2000000), Cond.constant RX1 35 (-2000000), Cond.methodLink RX1 51 yX1_answer, Cond.instanceMethod yX1_answer, Cond.selects RX1 yX1_answer yX1_answer, Cond.code yX1_answer cX1_answer 2 (some .int), Cond.fieldLink RX1 40 "FlightBooksModel" "faults" "I", Cond.fieldLink RX1 43 "FlightBooksModel" "latest" "I"]
def wsX1_change : List Cond := .code yX1_change cX1_change 10 (some .int) :: ((wsX1_change_r1 ++ wsX1_change_r2) ++ wsX10)
def wsX1_tally : List Cond := .code yX1_tally cX1_tally 4 (some .int) :: ([.constant RX1 50 (-300000), .fieldLink RX1 7 "FlightBooksModel" "many" "[I", .constant RX1 26 (-100000), .fieldLink RX1 23 "FlightBooksModel" "fault" "I", .fieldLink RX1 13 "FlightBooksModel" "cells" "[I", .methodLink RX1 46 yX1_isBook, .static yX1_isBook, .initialized RX1, .code yX1_isBook cX1_isBook 1 (some .boolean), .methodLink RX1 51 yX1_answer, .instanceMethod yX1_answer, .selects RX1 yX1_answer yX1_answer, .code yX1_answer cX1_answer 2 (some .int), .fieldLink RX1 40 "FlightBooksModel" "faults" "I", .fieldLink RX1 43 "FlightBooksModel" "latest" "I"] ++ wsX10)
def wsX1_copy_r1 : List Cond := [Cond.constant RX1 50 (-300000), Cond.fieldLink RX1 7 "FlightBooksModel" "many" "[I", Cond.constant RX1 26 (-100000), Cond.fieldLink RX1 23 "FlightBooksModel" "fault" "I", Cond.fieldLink RX1 13 "FlightBooksModel" "cells" "[I", Cond.methodLink RX1 46 yX1_isBook, Cond.static yX1_isBook, Cond.initialized RX1, Cond.code yX1_isBook cX1_isBook 1 (some .boolean), Cond.methodLink RX1 61 yX1_put, Cond.instanceMethod yX1_put, Cond.selects RX1 yX1_put yX1_put, Cond.code yX1_put cX1_put 4 none, Cond.methodLink RX1 28 yX1_has, Cond.instanceMethod yX1_has, Cond.selects RX1 yX1_has yX1_has, Cond.code yX1_has cX1_has 3 (some .boolean), Cond.constant RX1 27 (-200000), Cond.methodLink RX1 36 yX1_cut, Cond.static yX1_cut, Cond.code yX1_cut cX1_cut 3 (some .int), Cond.constant RX1 32 (65535), Cond.constant RX1 33 (65536), Cond.constant RX1 34 (2000000)]
def wsX1_copy_r2 : List Cond := [Cond.constant RX1 35 (-2000000), Cond.methodLink RX1 51 yX1_answer, Cond.instanceMethod yX1_answer, Cond.selects RX1 yX1_answer yX1_answer, Cond.code yX1_answer cX1_answer 2 (some .int), Cond.fieldLink RX1 40 "FlightBooksModel" "faults" "I", Cond.fieldLink RX1 43 "FlightBooksModel" "latest" "I"]
def wsX1_copy : List Cond := .code yX1_copy cX1_copy 5 (some .int) :: ((wsX1_copy_r1 ++ wsX1_copy_r2) ++ wsX10)
def wsX1_sluice_r1 : List Cond := [Cond.constant RX1 50 (-300000), Cond.fieldLink RX1 23 "FlightBooksModel" "fault" "I", Cond.fieldLink RX1 19 "FlightBooksModel" "chambers" "I", Cond.methodLink RX1 69 yX1_isChamber, Cond.instanceMethod yX1_isChamber, Cond.selects RX1 yX1_isChamber yX1_isChamber, Cond.initialized RX1, Cond.code yX1_isChamber cX1_isChamber 2 (some .boolean), Cond.methodLink RX1 72 yX1_more, Cond.instanceMethod yX1_more, Cond.selects RX1 yX1_more yX1_more, Cond.code yX1_more cX1_more 4 none, Cond.fieldLink RX1 13 "FlightBooksModel" "cells" "[I", Cond.methodLink RX1 28 yX1_has, Cond.instanceMethod yX1_has, Cond.selects RX1 yX1_has yX1_has, Cond.code yX1_has cX1_has 3 (some .boolean), Cond.fieldLink RX1 7 "FlightBooksModel" "many" "[I", Cond.constant RX1 26 (-100000), Cond.constant RX1 27 (-200000), Cond.methodLink RX1 36 yX1_cut, Cond.static yX1_cut, Cond.code yX1_cut cX1_cut 3 (some .int), Cond.constant RX1 32 (65535)]
def wsX1_sluice_r2 : List Cond := [Cond.constant RX1 33 (65536), Cond.constant RX1 34 (2000000), Cond.constant RX1 35 (-2000000), Cond.methodLink RX1 55 yX1_cell, Cond.instanceMethod yX1_cell, Cond.selects RX1 yX1_cell yX1_cell, Cond.code yX1_cell cX1_cell 3 (some .int), Cond.methodLink RX1 51 yX1_answer, Cond.instanceMethod yX1_answer, Cond.selects RX1 yX1_answer yX1_answer, Cond.code yX1_answer cX1_answer 2 (some .int), Cond.fieldLink RX1 40 "FlightBooksModel" "faults" "I", Cond.fieldLink RX1 43 "FlightBooksModel" "latest" "I"]
def wsX1_sluice : List Cond := .code yX1_sluice cX1_sluice 4 (some .int) :: ((wsX1_sluice_r1 ++ wsX1_sluice_r2) ++ wsX10)
def wsX1_open_r1 : List Cond := [Cond.constant RX1 50 (-300000), Cond.fieldLink RX1 23 "FlightBooksModel" "fault" "I", Cond.fieldLink RX1 19 "FlightBooksModel" "chambers" "I", Cond.methodLink RX1 69 yX1_isChamber, Cond.instanceMethod yX1_isChamber, Cond.selects RX1 yX1_isChamber yX1_isChamber, Cond.initialized RX1, Cond.code yX1_isChamber cX1_isChamber 2 (some .boolean), Cond.methodLink RX1 55 yX1_cell, Cond.instanceMethod yX1_cell, Cond.selects RX1 yX1_cell yX1_cell, Cond.code yX1_cell cX1_cell 3 (some .int), Cond.fieldLink RX1 13 "FlightBooksModel" "cells" "[I", Cond.methodLink RX1 28 yX1_has, Cond.instanceMethod yX1_has, Cond.selects RX1 yX1_has yX1_has, Cond.code yX1_has cX1_has 3 (some .boolean), Cond.fieldLink RX1 7 "FlightBooksModel" "many" "[I", Cond.constant RX1 26 (-100000), Cond.constant RX1 27 (-200000), Cond.methodLink RX1 61 yX1_put, Cond.instanceMethod yX1_put, Cond.selects RX1 yX1_put yX1_put, Cond.code yX1_put cX1_put 4 none]
def wsX1_open_r2 : List Cond := [Cond.methodLink RX1 36 yX1_cut, Cond.static yX1_cut, Cond.code yX1_cut cX1_cut 3 (some .int), Cond.constant RX1 32 (65535), Cond.constant RX1 33 (65536), Cond.constant RX1 34 (2000000), Cond.constant RX1 35 (-2000000), Cond.methodLink RX1 51 yX1_answer, Cond.instanceMethod yX1_answer, Cond.selects RX1 yX1_answer yX1_answer, Cond.code yX1_answer cX1_answer 2 (some .int), Cond.fieldLink RX1 40 "FlightBooksModel" "faults" "I", Cond.fieldLink RX1 43 "FlightBooksModel" "latest" "I"]
def wsX1_open : List Cond := .code yX1_open cX1_open 4 (some .int) :: ((wsX1_open_r1 ++ wsX1_open_r2) ++ wsX10)
def wsX1_shut_r1 : List Cond := [Cond.constant RX1 50 (-300000), Cond.fieldLink RX1 23 "FlightBooksModel" "fault" "I", Cond.methodLink RX1 69 yX1_isChamber, Cond.instanceMethod yX1_isChamber, Cond.selects RX1 yX1_isChamber yX1_isChamber, Cond.initialized RX1, Cond.code yX1_isChamber cX1_isChamber 2 (some .boolean), Cond.fieldLink RX1 19 "FlightBooksModel" "chambers" "I", Cond.methodLink RX1 55 yX1_cell, Cond.instanceMethod yX1_cell, Cond.selects RX1 yX1_cell yX1_cell, Cond.code yX1_cell cX1_cell 3 (some .int), Cond.fieldLink RX1 13 "FlightBooksModel" "cells" "[I", Cond.methodLink RX1 28 yX1_has, Cond.instanceMethod yX1_has, Cond.selects RX1 yX1_has yX1_has, Cond.code yX1_has cX1_has 3 (some .boolean), Cond.fieldLink RX1 7 "FlightBooksModel" "many" "[I", Cond.constant RX1 26 (-100000), Cond.constant RX1 27 (-200000), Cond.methodLink RX1 61 yX1_put, Cond.instanceMethod yX1_put, Cond.selects RX1 yX1_put yX1_put, Cond.code yX1_put cX1_put 4 none]
def wsX1_shut_r2 : List Cond := [Cond.methodLink RX1 36 yX1_cut, Cond.static yX1_cut, Cond.code yX1_cut cX1_cut 3 (some .int), Cond.constant RX1 32 (65535), Cond.constant RX1 33 (65536), Cond.constant RX1 34 (2000000), Cond.constant RX1 35 (-2000000), Cond.methodLink RX1 51 yX1_answer, Cond.instanceMethod yX1_answer, Cond.selects RX1 yX1_answer yX1_answer, Cond.code yX1_answer cX1_answer 2 (some .int), Cond.fieldLink RX1 40 "FlightBooksModel" "faults" "I", Cond.fieldLink RX1 43 "FlightBooksModel" "latest" "I"]
def wsX1_shut : List Cond := .code yX1_shut cX1_shut 3 (some .int) :: ((wsX1_shut_r1 ++ wsX1_shut_r2) ++ wsX10)
def wsX1_enter_r1 : List Cond := [Cond.constant RX1 32 (65535), Cond.constant RX1 50 (-300000), Cond.fieldLink RX1 23 "FlightBooksModel" "fault" "I", Cond.methodLink RX1 55 yX1_cell, Cond.instanceMethod yX1_cell, Cond.selects RX1 yX1_cell yX1_cell, Cond.initialized RX1, Cond.code yX1_cell cX1_cell 3 (some .int), Cond.fieldLink RX1 13 "FlightBooksModel" "cells" "[I", Cond.methodLink RX1 28 yX1_has, Cond.instanceMethod yX1_has, Cond.selects RX1 yX1_has yX1_has, Cond.code yX1_has cX1_has 3 (some .boolean), Cond.fieldLink RX1 7 "FlightBooksModel" "many" "[I", Cond.constant RX1 26 (-100000), Cond.constant RX1 27 (-200000), Cond.methodLink RX1 61 yX1_put, Cond.instanceMethod yX1_put, Cond.selects RX1 yX1_put yX1_put, Cond.code yX1_put cX1_put 4 none, Cond.methodLink RX1 36 yX1_cut, Cond.static yX1_cut, Cond.code yX1_cut cX1_cut 3 (some .int), Cond.constant RX1 33 (65536)]
def wsX1_enter_r2 : List Cond := [Cond.constant RX1 34 (2000000), Cond.constant RX1 35 (-2000000), Cond.methodLink RX1 72 yX1_more, Cond.instanceMethod yX1_more, Cond.selects RX1 yX1_more yX1_more, Cond.code yX1_more cX1_more 4 none, Cond.methodLink RX1 51 yX1_answer, Cond.instanceMethod yX1_answer, Cond.selects RX1 yX1_answer yX1_answer, Cond.code yX1_answer cX1_answer 2 (some .int), Cond.fieldLink RX1 40 "FlightBooksModel" "faults" "I", Cond.fieldLink RX1 43 "FlightBooksModel" "latest" "I"]
def wsX1_enter : List Cond := .code yX1_enter cX1_enter 6 (some .int) :: ((wsX1_enter_r1 ++ wsX1_enter_r2) ++ wsX10)
def wsX1_moved_r1 : List Cond := [Cond.methodLink RX1 55 yX1_cell, Cond.instanceMethod yX1_cell, Cond.selects RX1 yX1_cell yX1_cell, Cond.initialized RX1, Cond.code yX1_cell cX1_cell 3 (some .int), Cond.fieldLink RX1 13 "FlightBooksModel" "cells" "[I", Cond.methodLink RX1 28 yX1_has, Cond.instanceMethod yX1_has, Cond.selects RX1 yX1_has yX1_has, Cond.code yX1_has cX1_has 3 (some .boolean), Cond.fieldLink RX1 23 "FlightBooksModel" "fault" "I", Cond.fieldLink RX1 7 "FlightBooksModel" "many" "[I", Cond.constant RX1 26 (-100000), Cond.constant RX1 27 (-200000), Cond.methodLink RX1 61 yX1_put, Cond.instanceMethod yX1_put, Cond.selects RX1 yX1_put yX1_put, Cond.code yX1_put cX1_put 4 none, Cond.methodLink RX1 36 yX1_cut, Cond.static yX1_cut, Cond.code yX1_cut cX1_cut 3 (some .int), Cond.constant RX1 32 (65535), Cond.constant RX1 33 (65536), Cond.constant RX1 34 (2000000)]
def wsX1_moved_r2 : List Cond := [Cond.constant RX1 35 (-2000000), Cond.methodLink RX1 72 yX1_more, Cond.instanceMethod yX1_more, Cond.selects RX1 yX1_more yX1_more, Cond.code yX1_more cX1_more 4 none]
def wsX1_moved : List Cond := .code yX1_moved cX1_moved 4 (some .int) :: ((wsX1_moved_r1 ++ wsX1_moved_r2) ++ wsX10)
def wsX1_pass_r1 : List Cond := [Cond.constant RX1 50 (-300000), Cond.fieldLink RX1 23 "FlightBooksModel" "fault" "I", Cond.fieldLink RX1 19 "FlightBooksModel" "chambers" "I", Cond.fieldLink RX1 75 "FlightBooksModel" "out" "I", Cond.fieldLink RX1 78 "FlightBooksModel" "outLoads" "I", Cond.methodLink RX1 69 yX1_isChamber, Cond.instanceMethod yX1_isChamber, Cond.selects RX1 yX1_isChamber yX1_isChamber, Cond.initialized RX1, Cond.code yX1_isChamber cX1_isChamber 2 (some .boolean), Cond.methodLink RX1 55 yX1_cell, Cond.instanceMethod yX1_cell, Cond.selects RX1 yX1_cell yX1_cell, Cond.code yX1_cell cX1_cell 3 (some .int), Cond.fieldLink RX1 13 "FlightBooksModel" "cells" "[I", Cond.methodLink RX1 28 yX1_has, Cond.instanceMethod yX1_has, Cond.selects RX1 yX1_has yX1_has, Cond.code yX1_has cX1_has 3 (some .boolean), Cond.fieldLink RX1 7 "FlightBooksModel" "many" "[I", Cond.constant RX1 26 (-100000), Cond.constant RX1 27 (-200000), Cond.methodLink RX1 81 yX1_moved, Cond.instanceMethod yX1_moved]
def wsX1_pass_r2 : List Cond := [Cond.selects RX1 yX1_moved yX1_moved, Cond.code yX1_moved cX1_moved 4 (some .int), Cond.methodLink RX1 61 yX1_put, Cond.instanceMethod yX1_put, Cond.selects RX1 yX1_put yX1_put, Cond.code yX1_put cX1_put 4 none, Cond.methodLink RX1 36 yX1_cut, Cond.static yX1_cut, Cond.code yX1_cut cX1_cut 3 (some .int), Cond.constant RX1 32 (65535), Cond.constant RX1 33 (65536), Cond.constant RX1 34 (2000000), Cond.constant RX1 35 (-2000000), Cond.methodLink RX1 72 yX1_more, Cond.instanceMethod yX1_more, Cond.selects RX1 yX1_more yX1_more, Cond.code yX1_more cX1_more 4 none, Cond.methodLink RX1 51 yX1_answer, Cond.instanceMethod yX1_answer, Cond.selects RX1 yX1_answer yX1_answer, Cond.code yX1_answer cX1_answer 2 (some .int), Cond.fieldLink RX1 40 "FlightBooksModel" "faults" "I", Cond.fieldLink RX1 43 "FlightBooksModel" "latest" "I"]
def wsX1_pass : List Cond := .code yX1_pass cX1_pass 6 (some .int) :: ((wsX1_pass_r1 ++ wsX1_pass_r2) ++ wsX10)
def wsX1_survey : List Cond := .code yX1_survey cX1_survey 4 (some .int) :: ([.fieldLink RX1 84 "FlightBooksModel" "charted" "Z", .fieldLink RX1 88 "FlightBooksModel" "rows" "I", .fieldLink RX1 91 "FlightBooksModel" "across" "I", .fieldLink RX1 16 "FlightBooksModel" "places" "[I"] ++ wsX10)
def wsX1_hasRow : List Cond := .code yX1_hasRow cX1_hasRow 2 (some .boolean) :: ([.fieldLink RX1 23 "FlightBooksModel" "fault" "I", .fieldLink RX1 84 "FlightBooksModel" "charted" "Z", .constant RX1 94 (-100005), .fieldLink RX1 88 "FlightBooksModel" "rows" "I", .constant RX1 95 (-200005)] ++ wsX10)
def wsX1_hasPlace : List Cond := .code yX1_hasPlace cX1_hasPlace 3 (some .boolean) :: ([.fieldLink RX1 91 "FlightBooksModel" "across" "I", .constant RX1 99 (-200006), .fieldLink RX1 23 "FlightBooksModel" "fault" "I", .methodLink RX1 96 yX1_hasRow, .instanceMethod yX1_hasRow, .selects RX1 yX1_hasRow yX1_hasRow, .initialized RX1, .code yX1_hasRow cX1_hasRow 2 (some .boolean), .fieldLink RX1 84 "FlightBooksModel" "charted" "Z", .constant RX1 94 (-100005), .fieldLink RX1 88 "FlightBooksModel" "rows" "I", .constant RX1 95 (-200005)] ++ wsX10)
def wsX1_note_r1 : List Cond := [Cond.constant RX1 50 (-300000), Cond.fieldLink RX1 23 "FlightBooksModel" "fault" "I", Cond.fieldLink RX1 16 "FlightBooksModel" "places" "[I", Cond.methodLink RX1 46 yX1_isBook, Cond.static yX1_isBook, Cond.initialized RX1, Cond.code yX1_isBook cX1_isBook 1 (some .boolean), Cond.methodLink RX1 55 yX1_cell, Cond.instanceMethod yX1_cell, Cond.selects RX1 yX1_cell yX1_cell, Cond.code yX1_cell cX1_cell 3 (some .int), Cond.fieldLink RX1 13 "FlightBooksModel" "cells" "[I", Cond.methodLink RX1 28 yX1_has, Cond.instanceMethod yX1_has, Cond.selects RX1 yX1_has yX1_has, Cond.code yX1_has cX1_has 3 (some .boolean), Cond.fieldLink RX1 7 "FlightBooksModel" "many" "[I", Cond.constant RX1 26 (-100000), Cond.constant RX1 27 (-200000), Cond.methodLink RX1 100 yX1_hasPlace, Cond.instanceMethod yX1_hasPlace, Cond.selects RX1 yX1_hasPlace yX1_hasPlace, Cond.code yX1_hasPlace cX1_hasPlace 3 (some .boolean), Cond.fieldLink RX1 91 "FlightBooksModel" "across" "I"]
def wsX1_note_r2 : List Cond := [Cond.constant RX1 99 (-200006), Cond.methodLink RX1 96 yX1_hasRow, Cond.instanceMethod yX1_hasRow, Cond.selects RX1 yX1_hasRow yX1_hasRow, Cond.code yX1_hasRow cX1_hasRow 2 (some .boolean), Cond.fieldLink RX1 84 "FlightBooksModel" "charted" "Z", Cond.constant RX1 94 (-100005), Cond.fieldLink RX1 88 "FlightBooksModel" "rows" "I", Cond.constant RX1 95 (-200005), Cond.methodLink RX1 51 yX1_answer, Cond.instanceMethod yX1_answer, Cond.selects RX1 yX1_answer yX1_answer, Cond.code yX1_answer cX1_answer 2 (some .int), Cond.fieldLink RX1 40 "FlightBooksModel" "faults" "I", Cond.fieldLink RX1 43 "FlightBooksModel" "latest" "I"]
def wsX1_note : List Cond := .code yX1_note cX1_note 6 (some .int) :: ((wsX1_note_r1 ++ wsX1_note_r2) ++ wsX10)
def wsX1_chart : List Cond := .code yX1_chart cX1_chart 4 (some .int) :: ([.fieldLink RX1 23 "FlightBooksModel" "fault" "I", .fieldLink RX1 16 "FlightBooksModel" "places" "[I", .methodLink RX1 100 yX1_hasPlace, .instanceMethod yX1_hasPlace, .selects RX1 yX1_hasPlace yX1_hasPlace, .initialized RX1, .code yX1_hasPlace cX1_hasPlace 3 (some .boolean), .fieldLink RX1 91 "FlightBooksModel" "across" "I", .constant RX1 99 (-200006), .methodLink RX1 96 yX1_hasRow, .instanceMethod yX1_hasRow, .selects RX1 yX1_hasRow yX1_hasRow, .code yX1_hasRow cX1_hasRow 2 (some .boolean), .fieldLink RX1 84 "FlightBooksModel" "charted" "Z", .constant RX1 94 (-100005), .fieldLink RX1 88 "FlightBooksModel" "rows" "I", .constant RX1 95 (-200005), .methodLink RX1 51 yX1_answer, .instanceMethod yX1_answer, .selects RX1 yX1_answer yX1_answer, .code yX1_answer cX1_answer 2 (some .int), .fieldLink RX1 40 "FlightBooksModel" "faults" "I", .fieldLink RX1 43 "FlightBooksModel" "latest" "I"] ++ wsX10)
def wsX1_columns : List Cond := .code yX1_columns cX1_columns 3 (some .int) :: ([.fieldLink RX1 23 "FlightBooksModel" "fault" "I", .fieldLink RX1 91 "FlightBooksModel" "across" "I", .methodLink RX1 96 yX1_hasRow, .instanceMethod yX1_hasRow, .selects RX1 yX1_hasRow yX1_hasRow, .initialized RX1, .code yX1_hasRow cX1_hasRow 2 (some .boolean), .fieldLink RX1 84 "FlightBooksModel" "charted" "Z", .constant RX1 94 (-100005), .fieldLink RX1 88 "FlightBooksModel" "rows" "I", .constant RX1 95 (-200005), .methodLink RX1 51 yX1_answer, .instanceMethod yX1_answer, .selects RX1 yX1_answer yX1_answer, .code yX1_answer cX1_answer 2 (some .int), .fieldLink RX1 40 "FlightBooksModel" "faults" "I", .fieldLink RX1 43 "FlightBooksModel" "latest" "I"] ++ wsX10)
def wsX1_look : List Cond := .code yX1_look cX1_look 4 (some .int) :: ([.fieldLink RX1 7 "FlightBooksModel" "many" "[I", .fieldLink RX1 19 "FlightBooksModel" "chambers" "I", .fieldLink RX1 75 "FlightBooksModel" "out" "I", .fieldLink RX1 78 "FlightBooksModel" "outLoads" "I", .fieldLink RX1 40 "FlightBooksModel" "faults" "I", .fieldLink RX1 43 "FlightBooksModel" "latest" "I", .constant RX1 50 (-300000)] ++ wsX10)
def wsJ9_max_7cf53 : List Cond := .code yJ9_max_7cf53 cJ9_max_7cf53 2 (some .int) :: ([])
def wsJ9_min_7cf53 : List Cond := .code yJ9_min_7cf53 cJ9_min_7cf53 2 (some .int) :: ([])
def wsL_cell : List Cond := .code yL_cell cL_cell 2 (some .int) :: ([])
def wsL_law_r1 : List Cond := [Cond.classLink RL 7 RX0, Cond.instantiable RX0 10, Cond.initialized RX0, Cond.classLink RL 18 RX1, Cond.instantiable RX1 12, Cond.initialized RX1, Cond.methodLink RL 9 yL_cell, Cond.static yL_cell, Cond.initialized RL, Cond.code yL_cell cL_cell 2 (some .int), Cond.methodLink RL 15 yX0_init, Cond.instanceMethod yX0_init, Cond.code yX0_init cX0_init 2 none, Cond.methodLink RX0 1 objectInit, Cond.instanceMethod objectInit, Cond.code objectInit ⟨#[0xb1]⟩ 1 none, Cond.arrayClass .int, Cond.fieldLink RX0 9 "FlightBooks" "lineCounts" "[I", Cond.classLink RX0 13 "[[I", Cond.fieldLink RX0 15 "FlightBooks" "held" "[[I", Cond.fieldLink RX0 18 "FlightBooks" "places" "[[I", Cond.fieldLink RX0 21 "FlightBooks" "rowCount" "I", Cond.fieldLink RX0 25 "FlightBooks" "columnCount" "I", Cond.fieldLink RX0 28 "FlightBooks" "bargesOut" "I"]
def wsL_law_r2 : List Cond := [Cond.fieldLink RX0 31 "FlightBooks" "eighthsOut" "I", Cond.fieldLink RX0 34 "FlightBooks" "faultCount" "I", Cond.fieldLink RX0 37 "FlightBooks" "latestFault" "I", Cond.fieldLink RX0 44 "FlightBooks" "chamberCount" "I", Cond.methodLink RX0 40 yX0_nearest, Cond.static yX0_nearest, Cond.code yX0_nearest cX0_nearest 3 (some .int), Cond.methodLink RX0 121 Lib.Math.min.name, Cond.static Lib.Math.min.name, Cond.initialized "java/lang/Math", Cond.code Lib.Math.min.name Lib.Math.min.code 2 (some .int), Cond.methodLink RX0 126 Lib.Math.max.name, Cond.static Lib.Math.max.name, Cond.code Lib.Math.max.name Lib.Math.max.code 2 (some .int), Cond.methodLink RX0 47 yJ7_fill_53178, Cond.static yJ7_fill_53178, Cond.initialized RJ7, Cond.code yJ7_fill_53178 cJ7_fill_53178 4 none, Cond.methodLink RL 20 yX1_init, Cond.instanceMethod yX1_init, Cond.code yX1_init cX1_init 3 none, Cond.methodLink RX1 1 objectInit, Cond.fieldLink RX1 7 "FlightBooksModel" "many" "[I", Cond.fieldLink RX1 13 "FlightBooksModel" "cells" "[I"]
def wsL_law_r3 : List Cond := [Cond.fieldLink RX1 16 "FlightBooksModel" "places" "[I", Cond.fieldLink RX1 19 "FlightBooksModel" "chambers" "I", Cond.methodLink RL 21 yX0_keep, Cond.instanceMethod yX0_keep, Cond.selects RX0 yX0_keep yX0_keep, Cond.code yX0_keep cX0_keep 3 (some .int), Cond.constant RX0 57 (-300000), Cond.methodLink RX0 53 yX0_isBook, Cond.static yX0_isBook, Cond.code yX0_isBook cX0_isBook 1 (some .boolean), Cond.methodLink RL 25 yX1_keep, Cond.instanceMethod yX1_keep, Cond.selects RX1 yX1_keep yX1_keep, Cond.code yX1_keep cX1_keep 4 (some .int), Cond.constant RX1 50 (-300000), Cond.methodLink RX1 46 yX1_isBook, Cond.static yX1_isBook, Cond.code yX1_isBook cX1_isBook 1 (some .boolean), Cond.methodLink RL 26 yX0_lose, Cond.instanceMethod yX0_lose, Cond.selects RX0 yX0_lose yX0_lose, Cond.code yX0_lose cX0_lose 2 (some .int), Cond.methodLink RL 30 yX1_lose, Cond.instanceMethod yX1_lose]
def wsL_law_r4 : List Cond := [Cond.selects RX1 yX1_lose yX1_lose, Cond.code yX1_lose cX1_lose 3 (some .int), Cond.methodLink RL 31 yX0_lines, Cond.instanceMethod yX0_lines, Cond.selects RX0 yX0_lines yX0_lines, Cond.code yX0_lines cX0_lines 2 (some .int), Cond.methodLink RX0 58 yX0_endsAtBook, Cond.instanceMethod yX0_endsAtBook, Cond.selects RX0 yX0_endsAtBook yX0_endsAtBook, Cond.code yX0_endsAtBook cX0_endsAtBook 2 (some .boolean), Cond.constant RX0 110 (-100000), Cond.methodLink RX0 111 yX0_ended, Cond.instanceMethod yX0_ended, Cond.selects RX0 yX0_ended yX0_ended, Cond.code yX0_ended cX0_ended 2 (some .boolean), Cond.methodLink RL 34 yX1_lines, Cond.instanceMethod yX1_lines, Cond.selects RX1 yX1_lines yX1_lines, Cond.code yX1_lines cX1_lines 2 (some .int), Cond.constant RX1 26 (-100000), Cond.fieldLink RX1 23 "FlightBooksModel" "fault" "I", Cond.methodLink RX1 51 yX1_answer, Cond.instanceMethod yX1_answer, Cond.selects RX1 yX1_answer yX1_answer]
def wsL_law_r5 : List Cond := [Cond.code yX1_answer cX1_answer 2 (some .int), Cond.fieldLink RX1 40 "FlightBooksModel" "faults" "I", Cond.fieldLink RX1 43 "FlightBooksModel" "latest" "I", Cond.methodLink RL 35 yX0_read, Cond.instanceMethod yX0_read, Cond.selects RX0 yX0_read yX0_read, Cond.code yX0_read cX0_read 3 (some .int), Cond.methodLink RX0 61 yX0_endsAtLine, Cond.instanceMethod yX0_endsAtLine, Cond.selects RX0 yX0_endsAtLine yX0_endsAtLine, Cond.code yX0_endsAtLine cX0_endsAtLine 3 (some .boolean), Cond.constant RX0 114 (-200000), Cond.methodLink RL 38 yX1_read, Cond.instanceMethod yX1_read, Cond.selects RX1 yX1_read yX1_read, Cond.code yX1_read cX1_read 4 (some .int), Cond.methodLink RX1 55 yX1_cell, Cond.instanceMethod yX1_cell, Cond.selects RX1 yX1_cell yX1_cell, Cond.code yX1_cell cX1_cell 3 (some .int), Cond.methodLink RX1 28 yX1_has, Cond.instanceMethod yX1_has, Cond.selects RX1 yX1_has yX1_has, Cond.code yX1_has cX1_has 3 (some .boolean)]
def wsL_law_r6 : List Cond := [Cond.constant RX1 27 (-200000), Cond.methodLink RL 39 yX0_write, Cond.instanceMethod yX0_write, Cond.selects RX0 yX0_write yX0_write, Cond.code yX0_write cX0_write 4 (some .int), Cond.methodLink RX0 65 yX0_isToldLoad, Cond.static yX0_isToldLoad, Cond.code yX0_isToldLoad cX0_isToldLoad 1 (some .boolean), Cond.methodLink RX0 68 yX0_put, Cond.instanceMethod yX0_put, Cond.selects RX0 yX0_put yX0_put, Cond.code yX0_put cX0_put 4 none, Cond.methodLink RX0 86 yX0_cut, Cond.static yX0_cut, Cond.code yX0_cut cX0_cut 2 (some .int), Cond.constant RX0 118 (65535), Cond.constant RX0 119 (-2000000), Cond.constant RX0 120 (2000000), Cond.methodLink RL 43 yX1_write, Cond.instanceMethod yX1_write, Cond.selects RX1 yX1_write yX1_write, Cond.code yX1_write cX1_write 4 (some .int), Cond.methodLink RX1 58 yX1_isLoad, Cond.static yX1_isLoad]
def wsL_law_r7 : List Cond := [Cond.code yX1_isLoad cX1_isLoad 1 (some .boolean), Cond.methodLink RX1 61 yX1_put, Cond.instanceMethod yX1_put, Cond.selects RX1 yX1_put yX1_put, Cond.code yX1_put cX1_put 4 none, Cond.methodLink RX1 36 yX1_cut, Cond.static yX1_cut, Cond.code yX1_cut cX1_cut 3 (some .int), Cond.constant RX1 32 (65535), Cond.constant RX1 33 (65536), Cond.constant RX1 34 (2000000), Cond.constant RX1 35 (-2000000), Cond.methodLink RL 44 yX0_change, Cond.instanceMethod yX0_change, Cond.selects RX0 yX0_change yX0_change, Cond.code yX0_change cX0_change 5 (some .int), Cond.methodLink RX0 72 yX0_changed, Cond.static yX0_changed, Cond.code yX0_changed cX0_changed 5 (some .int), Cond.methodLink RX0 129 yX0_changedGate, Cond.static yX0_changedGate, Cond.code yX0_changedGate cX0_changedGate 3 (some .int), Cond.methodLink RL 48 yX1_change, Cond.instanceMethod yX1_change]
def wsL_law_r8 : List Cond := [Cond.selects RX1 yX1_change yX1_change, Cond.code yX1_change cX1_change 10 (some .int), Cond.methodLink RX1 65 yX1_gate, Cond.static yX1_gate, Cond.code yX1_gate cX1_gate 4 (some .int), Cond.methodLink RL 49 yX0_tally, Cond.instanceMethod yX0_tally, Cond.selects RX0 yX0_tally yX0_tally, Cond.code yX0_tally cX0_tally 4 (some .int), Cond.methodLink RL 52 yX1_tally, Cond.instanceMethod yX1_tally, Cond.selects RX1 yX1_tally yX1_tally, Cond.code yX1_tally cX1_tally 4 (some .int), Cond.methodLink RL 53 yX0_copy, Cond.instanceMethod yX0_copy, Cond.selects RX0 yX0_copy yX0_copy, Cond.code yX0_copy cX0_copy 4 (some .int), Cond.methodLink RX0 76 yX0_told, Cond.static yX0_told, Cond.code yX0_told cX0_told 2 (some .int), Cond.methodLink RL 56 yX1_copy, Cond.instanceMethod yX1_copy, Cond.selects RX1 yX1_copy yX1_copy, Cond.code yX1_copy cX1_copy 5 (some .int)]
def wsL_law_r9 : List Cond := [Cond.methodLink RL 57 yX0_sluice, Cond.instanceMethod yX0_sluice, Cond.selects RX0 yX0_sluice yX0_sluice, Cond.code yX0_sluice cX0_sluice 3 (some .int), Cond.methodLink RX0 80 yX0_isChamber, Cond.instanceMethod yX0_isChamber, Cond.selects RX0 yX0_isChamber yX0_isChamber, Cond.code yX0_isChamber cX0_isChamber 2 (some .boolean), Cond.methodLink RX0 83 yX0_isLast, Cond.instanceMethod yX0_isLast, Cond.selects RX0 yX0_isLast yX0_isLast, Cond.code yX0_isLast cX0_isLast 2 (some .boolean), Cond.methodLink RL 60 yX1_sluice, Cond.instanceMethod yX1_sluice, Cond.selects RX1 yX1_sluice yX1_sluice, Cond.code yX1_sluice cX1_sluice 4 (some .int), Cond.methodLink RX1 69 yX1_isChamber, Cond.instanceMethod yX1_isChamber, Cond.selects RX1 yX1_isChamber yX1_isChamber, Cond.code yX1_isChamber cX1_isChamber 2 (some .boolean), Cond.methodLink RX1 72 yX1_more, Cond.instanceMethod yX1_more, Cond.selects RX1 yX1_more yX1_more, Cond.code yX1_more cX1_more 4 none]
def wsL_law_r10 : List Cond := [Cond.methodLink RL 61 yX0_open, Cond.instanceMethod yX0_open, Cond.selects RX0 yX0_open yX0_open, Cond.code yX0_open cX0_open 3 (some .int), Cond.methodLink RL 64 yX1_open, Cond.instanceMethod yX1_open, Cond.selects RX1 yX1_open yX1_open, Cond.code yX1_open cX1_open 4 (some .int), Cond.methodLink RL 65 yX0_shut, Cond.instanceMethod yX0_shut, Cond.selects RX0 yX0_shut yX0_shut, Cond.code yX0_shut cX0_shut 3 (some .int), Cond.methodLink RL 68 yX1_shut, Cond.instanceMethod yX1_shut, Cond.selects RX1 yX1_shut yX1_shut, Cond.code yX1_shut cX1_shut 3 (some .int), Cond.methodLink RL 69 yX0_enter, Cond.instanceMethod yX0_enter, Cond.selects RX0 yX0_enter yX0_enter, Cond.code yX0_enter cX0_enter 3 (some .int), Cond.methodLink RX0 89 yX0_endsAtArrival, Cond.instanceMethod yX0_endsAtArrival, Cond.selects RX0 yX0_endsAtArrival yX0_endsAtArrival, Cond.code yX0_endsAtArrival cX0_endsAtArrival 4 (some .boolean)]
def wsL_law_r11 : List Cond := [Cond.methodLink RL 72 yX1_enter, Cond.instanceMethod yX1_enter, Cond.selects RX1 yX1_enter yX1_enter, Cond.code yX1_enter cX1_enter 6 (some .int), Cond.methodLink RL 73 yX0_pass, Cond.instanceMethod yX0_pass, Cond.selects RX0 yX0_pass yX0_pass, Cond.code yX0_pass cX0_pass 2 (some .int), Cond.methodLink RX0 93 yX0_goOut, Cond.instanceMethod yX0_goOut, Cond.selects RX0 yX0_goOut yX0_goOut, Cond.code yX0_goOut cX0_goOut 2 (some .int), Cond.methodLink RX0 132 yX0_leave, Cond.instanceMethod yX0_leave, Cond.selects RX0 yX0_leave yX0_leave, Cond.code yX0_leave cX0_leave 3 (some .int), Cond.methodLink RX0 97 yX0_goOn, Cond.instanceMethod yX0_goOn, Cond.selects RX0 yX0_goOn yX0_goOn, Cond.code yX0_goOn cX0_goOn 3 (some .int), Cond.methodLink RL 76 yX1_pass, Cond.instanceMethod yX1_pass, Cond.selects RX1 yX1_pass yX1_pass, Cond.code yX1_pass cX1_pass 6 (some .int)]
def wsL_law_r12 : List Cond := [Cond.fieldLink RX1 75 "FlightBooksModel" "out" "I", Cond.fieldLink RX1 78 "FlightBooksModel" "outLoads" "I", Cond.methodLink RX1 81 yX1_moved, Cond.instanceMethod yX1_moved, Cond.selects RX1 yX1_moved yX1_moved, Cond.code yX1_moved cX1_moved 4 (some .int), Cond.methodLink RL 77 yX0_survey, Cond.instanceMethod yX0_survey, Cond.selects RX0 yX0_survey yX0_survey, Cond.code yX0_survey cX0_survey 4 (some .int), Cond.methodLink RL 80 yX1_survey, Cond.instanceMethod yX1_survey, Cond.selects RX1 yX1_survey yX1_survey, Cond.code yX1_survey cX1_survey 4 (some .int), Cond.fieldLink RX1 84 "FlightBooksModel" "charted" "Z", Cond.fieldLink RX1 88 "FlightBooksModel" "rows" "I", Cond.fieldLink RX1 91 "FlightBooksModel" "across" "I", Cond.methodLink RL 81 yX0_note, Cond.instanceMethod yX0_note, Cond.selects RX0 yX0_note yX0_note, Cond.code yX0_note cX0_note 5 (some .int), Cond.methodLink RX0 100 yX0_endsAtPlace, Cond.instanceMethod yX0_endsAtPlace, Cond.selects RX0 yX0_endsAtPlace yX0_endsAtPlace]
def wsL_law_r13 : List Cond := [Cond.code yX0_endsAtPlace cX0_endsAtPlace 3 (some .boolean), Cond.constant RX0 117 (-200006), Cond.methodLink RX0 103 yX0_endsAtRow, Cond.instanceMethod yX0_endsAtRow, Cond.selects RX0 yX0_endsAtRow yX0_endsAtRow, Cond.code yX0_endsAtRow cX0_endsAtRow 2 (some .boolean), Cond.constant RX0 115 (-100005), Cond.constant RX0 116 (-200005), Cond.methodLink RL 84 yX1_note, Cond.instanceMethod yX1_note, Cond.selects RX1 yX1_note yX1_note, Cond.code yX1_note cX1_note 6 (some .int), Cond.methodLink RX1 100 yX1_hasPlace, Cond.instanceMethod yX1_hasPlace, Cond.selects RX1 yX1_hasPlace yX1_hasPlace, Cond.code yX1_hasPlace cX1_hasPlace 3 (some .boolean), Cond.constant RX1 99 (-200006), Cond.methodLink RX1 96 yX1_hasRow, Cond.instanceMethod yX1_hasRow, Cond.selects RX1 yX1_hasRow yX1_hasRow, Cond.code yX1_hasRow cX1_hasRow 2 (some .boolean), Cond.constant RX1 94 (-100005), Cond.constant RX1 95 (-200005), Cond.methodLink RL 85 yX0_chart]
def wsL_law_r14 : List Cond := [Cond.instanceMethod yX0_chart, Cond.selects RX0 yX0_chart yX0_chart, Cond.code yX0_chart cX0_chart 3 (some .int), Cond.methodLink RL 88 yX1_chart, Cond.instanceMethod yX1_chart, Cond.selects RX1 yX1_chart yX1_chart, Cond.code yX1_chart cX1_chart 4 (some .int), Cond.methodLink RL 89 yX0_columns, Cond.instanceMethod yX0_columns, Cond.selects RX0 yX0_columns yX0_columns, Cond.code yX0_columns cX0_columns 2 (some .int), Cond.methodLink RL 92 yX1_columns, Cond.instanceMethod yX1_columns, Cond.selects RX1 yX1_columns yX1_columns, Cond.code yX1_columns cX1_columns 3 (some .int), Cond.methodLink RL 93 yX0_look, Cond.instanceMethod yX0_look, Cond.selects RX0 yX0_look yX0_look, Cond.code yX0_look cX0_look 2 (some .int), Cond.methodLink RX0 106 yX0_booksKept, Cond.instanceMethod yX0_booksKept, Cond.selects RX0 yX0_booksKept yX0_booksKept, Cond.code yX0_booksKept cX0_booksKept 3 (some .int), Cond.methodLink RL 96 yX1_look]
def wsL_law_r15 : List Cond := [Cond.instanceMethod yX1_look, Cond.selects RX1 yX1_look yX1_look, Cond.code yX1_look cX1_look 4 (some .int)]
def wsL_law : List Cond := (wsL_law_r1 ++ (wsL_law_r2 ++ (wsL_law_r3 ++ (wsL_law_r4 ++ (wsL_law_r5 ++ (wsL_law_r6 ++ (wsL_law_r7 ++ (wsL_law_r8 ++ (wsL_law_r9 ++ (wsL_law_r10 ++ (wsL_law_r11 ++ (wsL_law_r12 ++ (wsL_law_r13 ++ (wsL_law_r14 ++ wsL_law_r15)))))))))))))) ++ wsX00 ++ wsX10 ++ ([] : List Cond)
set_option maxRecDepth 20000 in
theorem wsL_law_in : ∀ w ∈ wsL_law, w ∈ lw_tbl := fun w h => (goodIn_p wsL_law [234, 31, 34, 39, 42, 45, 48, 239, 84, 87, 281, 284, 92, 289, 96, 100, 105, 293, 298, 109, 113, 302, 306, 310, 118, 121, 125, 128, 315, 318, 322, 325, 135, 138, 141, 333, 336, 145, 340, 149, 152, 344, 156, 160, 164, 348, 352, 356, 168, 360, 172, 364, 176, 180, 368, 184, 188, 192, 196, 372, 376, 200, 380, 204, 208, 212, 384, 388, 392, 219, 399, 223, 403, 227, 231, 407] (by decide +kernel) (by decide +kernel) w h).1
theorem inlX0 : ∀ w ∈ wsX00, w ∈ wsL_law := fun _ h => List.mem_append_left _ (List.mem_append_left _ (List.mem_append_right _ h))
theorem inX0 : ∀ w ∈ wsX00, w ∈ lw_tbl := fun w h => wsL_law_in w (inlX0 w h)
theorem inlX1 : ∀ w ∈ wsX10, w ∈ wsL_law := fun _ h => List.mem_append_left _ (List.mem_append_right _ h)
theorem inX1 : ∀ w ∈ wsX10, w ∈ lw_tbl := fun w h => wsL_law_in w (inlX1 w h)
theorem inJ9 : ∀ w ∈ wsJ90, w ∈ lw_tbl := by decide +kernel
theorem inJ7 : ∀ w ∈ wsJ70, w ∈ lw_tbl := by decide +kernel
