/-! each method of the class beside the reference's: answers are equal, the states stay beside each other -/
theorem RR_c {S : XS} {T : MS} {b v : Int32} (R : RR S T) (h5 : vp_in b 5) (hv : -1 ≤ v.toInt ∧ v.toInt ≤ 24) : RR (xsc S b v) (msc T b v) := by
  obtain ⟨r1, r2, r3, r4, r5, r6, r7, r8⟩ := R
  refine ⟨r1, ?_, r3, r4, r5, ⟨?_, r6.2⟩, ⟨?_, r7.2⟩, r8⟩
  · intro b' hb'
    show upd (xC S) b.toNatClampNeg v b' = upd (mC T) b.toNatClampNeg v b'
    by_cases e : b' = b.toNatClampNeg
    · rw [e, pk_us, pk_us]
    · rw [pk_un e, pk_un e]; exact r2 b' hb'
  · intro b' hb'
    show -1 ≤ (upd (xC S) b.toNatClampNeg v b').toInt ∧ (upd (xC S) b.toNatClampNeg v b').toInt ≤ 24
    by_cases e : b' = b.toNatClampNeg
    · rw [e, pk_us]; exact hv
    · rw [pk_un e]; exact r6.1 b' hb'
  · intro b' hb'
    show -1 ≤ (upd (mC T) b.toNatClampNeg v b').toInt ∧ (upd (mC T) b.toNatClampNeg v b').toInt ≤ 24
    by_cases e : b' = b.toNatClampNeg
    · rw [e, pk_us]; exact hv
    · rw [pk_un e]; exact r7.1 b' hb'
theorem xsc_self {S : XS} {b v : Int32} (h : xc S b = v) : xsc S b v = S := by
  have e : upd (xC S) b.toNatClampNeg v = xC S := by
    funext j
    by_cases e : j = b.toNatClampNeg
    · rw [e, pk_us]; exact h.symm
    · rw [pk_un e]
  show (xN S, upd (xC S) b.toNatClampNeg v, xH S, xP S, xRc S, xCc S, xBo S, xEo S, xFc S, xLf S) = S
  rw [e]
theorem q_lose {S : XS} {T : MS} (R : RR S T) (b : Int32) : RQ (xF_lose S b) (mF_lose T b) := by
  unfold xF_lose mF_lose
  rw [isBook_eq]
  by_cases hb : xF_isBook b = 0
  · rw [if_pos hb, if_pos hb]; exact ⟨rfl, R⟩
  · rw [if_neg hb, if_neg hb]
    have h5 := xe_book rfl hb
    have hm : mc T b < 0 ↔ xc S b = -1 := by
      have h := C_lo R h5
      rw [Int32.le_iff_toInt_le] at h
      rw [Int32.lt_iff_toInt_lt]
      constructor
      · intro q
        by_cases e : xc S b = -1
        · exact e
        · have := h.mpr e; omega
      · intro q
        have : ¬ (0 : Int32).toInt ≤ (mc T b).toInt := fun z => h.mp z q
        omega
    by_cases h : xc S b = -1
    · rw [if_pos h, if_pos (hm.mpr h)]
      refine ⟨rfl, ?_⟩
      have := RR_c (v := -1) R h5 (by decide)
      rw [xsc_self h] at this
      exact this
    · rw [if_neg h, if_neg (fun q => h (hm.mp q))]
      exact ⟨rfl, RR_c R h5 (by decide)⟩
theorem keepL_eq {b : Int32} (h5 : vp_in b 5) : ∀ (n k : Nat) (T : MS), k ≤ 24 → 25 ≤ k + n → mF_keepL b n (nI k) T = msH T (fun j => if 24 * b.toNatClampNeg + k ≤ j ∧ j < 24 * b.toNatClampNeg + 24 then 0 else mH T j) := by
  intro n
  induction n with
  | zero => intro k T h1 h2; exact absurd h2 (by omega)
  | succ n ih =>
    intro k T hk hkn
    have hle : (24 : Int32) ≤ nI k ↔ 24 ≤ k := by rw [show (24 : Int32) = nI 24 by decide]; exact nI_leI (by decide) (by omega)
    rw [mF_keepL]
    by_cases h : 24 ≤ k
    · rw [if_pos (hle.mpr h)]
      have e : (fun j => if 24 * b.toNatClampNeg + k ≤ j ∧ j < 24 * b.toNatClampNeg + 24 then (0 : Int32) else mH T j) = mH T := by
        funext j
        rw [if_neg (by omega)]
      rw [e]
    · rw [if_neg (fun q => h (hle.mp q)), nI_1, ih (k + 1) _ (by omega) (by omega)]
      have e : (fun j => if 24 * b.toNatClampNeg + (k + 1) ≤ j ∧ j < 24 * b.toNatClampNeg + 24 then (0 : Int32) else upd (mH T) (Int32.toNatClampNeg ((24 * b) + nI k)) 0 j) = (fun j => if 24 * b.toNatClampNeg + k ≤ j ∧ j < 24 * b.toNatClampNeg + 24 then (0 : Int32) else mH T j) := by
        funext j
        rw [ixN (by decide) h5 (vp_in_nI (by omega) (by decide)), nI_clamp (by omega)]
        by_cases e1 : j = 24 * b.toNatClampNeg + k
        · rw [if_neg (by omega), if_pos (by omega), e1, pk_us]
        · rw [pk_un e1]
          by_cases e2 : 24 * b.toNatClampNeg + (k + 1) ≤ j ∧ j < 24 * b.toNatClampNeg + 24
          · rw [if_pos e2, if_pos (by omega)]
          · rw [if_neg e2, if_neg (by omega)]
      show (mN T, mC T, (fun j => if 24 * b.toNatClampNeg + (k + 1) ≤ j ∧ j < 24 * b.toNatClampNeg + 24 then (0 : Int32) else upd (mH T) (Int32.toNatClampNeg ((24 * b) + nI k)) 0 j), mP T, mCh T, mRw T, mAc T, mOu T, mOl T, mFs T, mLa T, mFa T) = _
      rw [e]
theorem q_keep {S : XS} {T : MS} (R : RR S T) (b l : Int32) : RQ (xF_keep S b l) (mF_keep T b l) := by
  unfold xF_keep mF_keep
  rw [isBook_eq]
  by_cases hb : xF_isBook b = 0
  · rw [if_pos hb, if_pos hb]; exact ⟨rfl, R⟩
  · rw [if_neg hb, if_neg hb]
    have h5 := xe_book rfl hb
    by_cases h1 : l ≤ 24
    · rw [if_pos h1, if_pos h1]
      by_cases h2 : 0 ≤ l
      · rw [if_pos h2, if_pos h2]
        refine ⟨rfl, ?_⟩
        have hz : mF_keepL b 25 0 (msc T b l) = msc (msH T (fun j => if 24 * b.toNatClampNeg + 0 ≤ j ∧ j < 24 * b.toNatClampNeg + 24 then 0 else mH T j)) b l := by
          have := keepL_eq h5 25 0 (msc T b l) (by decide) (by decide)
          rw [nI_0] at this
          exact this
        show RR (xsc (xsH S (va_up (xH S) b.toNatClampNeg (fun _ => 0))) b l) (mF_keepL b 25 0 (msc T b l))
        rw [hz]
        refine RR_c ?_ h5 (by rw [Int32.le_iff_toInt_le] at h1 h2; rw [tI24] at h1; rw [tI0] at h2; omega)
        obtain ⟨r1, r2, r3, r4, r5, r6, r7, r8⟩ := R
        have hbl := vk_lt h5
        refine ⟨r1, r2, ?_, ?_, r5, r6, r7, r8⟩
        · intro b' i' hb' hi'
          show va_up (xH S) b.toNatClampNeg (fun _ => 0) b' i' = if 24 * b.toNatClampNeg + 0 ≤ 24 * b' + i' ∧ 24 * b' + i' < 24 * b.toNatClampNeg + 24 then 0 else mH T (24 * b' + i')
          by_cases e : b' = b.toNatClampNeg
          · rw [e, va_up_self, if_pos (by omega)]
          · rw [va_up_ne _ _ e, if_neg (by omega)]
            exact r3 _ _ hb' hi'
        · intro i' hi'
          show va_up (xH S) b.toNatClampNeg (fun _ => 0) 3 i' = 0 ∨ va_up (xH S) b.toNatClampNeg (fun _ => 0) 3 i' = 1
          by_cases e : 3 = b.toNatClampNeg
          · rw [e, va_up_self]; exact Or.inl rfl
          · rw [va_up_ne _ _ e]; exact r4 _ hi'
      · rw [if_neg h2, if_neg h2]; exact ⟨rfl, R⟩
    · rw [if_neg h1, if_neg h1]; exact ⟨rfl, R⟩
theorem q_lines {S : XS} {T : MS} (R : RR S T) (b : Int32) : RQ (xF_lines S b) (mF_lines T b) := by
  have e1 : (-100000 : Int32) - b = bflt b := rfl
  by_cases hb : xF_isBook b = 0
  · unfold xF_lines mF_lines
    rw [isBook_eq, if_pos hb, if_pos hb]; exact ⟨rfl, R⟩
  · have h5 := xe_book rfl hb
    by_cases h : xc S b = -1
    · simp only [xF_lines, mF_lines, isBook_eq, if_neg hb, eab_no h, if_neg n10, if_neg (fun q => (C_lo R h5).mp q h), e1, ans_f _ (bflt_ne h5)]
      exact ⟨rfl, RR_E R _⟩
    · simp only [xF_lines, mF_lines, isBook_eq, if_neg hb, eab_ok h, ↓reduceIte, if_pos ((C_lo R h5).mpr h), ans_0 _ (rfl : mFa (msFa T 0) = 0)]
      exact ⟨(C_eq R h5).symm, RR_fa R 0⟩
theorem q_read {S : XS} {T : MS} (R : RR S T) (b i : Int32) : RQ (xF_read S b i) (mF_read T b i) := by
  have R0 := RR_fa R 0
  by_cases hb : xF_isBook b = 0
  · unfold xF_read mF_read
    rw [isBook_eq, if_pos hb, if_pos hb]; exact ⟨rfl, R⟩
  · have h5 := xe_book rfl hb
    by_cases ok : xok S b i
    · simp only [xF_read, mF_read, isBook_eq, if_neg hb, eal_ok ok, ↓reduceIte, cell_ok R0 h5 ok rfl, ans_0 _ (rfl : mFa (msFa T 0) = 0)]
      exact ⟨rfl, R0⟩
    · simp only [xF_read, mF_read, isBook_eq, if_neg hb, eal_no ok, if_neg n10, cell_no R0 h5 ok rfl, ans_f _ (xflt_ne h5)]
      exact ⟨rfl, RR_E R0 _⟩
theorem q_wr {S : XS} {T : MS} (R : RR S T) {b : Int32} (h5 : vp_in b 5) (i v : Int32) : RQ (let q := xF_endsAtLine S b i; if q.1 = 0 then (let q2 := xF_put q.2 b i v; (0, q2)) else (xLf q.2, q.2)) (let q := mF_put (msFa T 0) b i v; let u := mF_answer q 0; (u.1, u.2)) := by
  have R0 := RR_fa R 0
  by_cases ok : xok S b i
  · simp only [eal_ok ok, ↓reduceIte, put_ok v R0 h5 ok rfl, ans_0 _ (rfl : mFa (mPut (msFa T 0) b i v) = 0)]
    exact ⟨rfl, RR_put v R0 h5 (xok_in R.2.2.2.2.2.1 h5 ok)⟩
  · simp only [eal_no ok, if_neg n10, put_no v R0 h5 ok rfl, ans_f _ (xflt_ne h5)]
    exact ⟨rfl, RR_E R0 _⟩
theorem q_write {S : XS} {T : MS} (R : RR S T) (b i v : Int32) : RQ (xF_write S b i v) (mF_write T b i v) := by
  unfold xF_write mF_write
  rw [isBook_eq, isLoad_eq]
  by_cases hb : xF_isBook b = 0
  · rw [if_pos hb, if_pos hb]; exact ⟨rfl, R⟩
  · rw [if_neg hb, if_neg hb]
    have h5 := xe_book rfl hb
    by_cases h2 : b = 2
    · rw [if_pos h2, if_pos h2]
      by_cases h3 : xF_isToldLoad v = 0
      · rw [if_pos h3, if_pos h3]; exact ⟨rfl, R⟩
      · rw [if_neg h3, if_neg h3]; exact q_wr R h5 i v
    · rw [if_neg h2, if_neg h2]; exact q_wr R h5 i v
def xTail (S : XS) (b i how v : Int32) : Int32 × XS := let q := xF_endsAtLine S b i; if q.1 = 0 then (let q2 := xF_put q.2 b i (xF_changed b (xh q.2 b i) how v); (xh q2 b i, q2)) else (xLf q.2, q.2)
theorem q_chg {S : XS} {T : MS} (R : RR S T) {b : Int32} (h5 : vp_in b 5) (i how v : Int32) (fm : Int32 → Int32) (hv : xok S b i → xF_cut b (xF_changed b (xh S b i) how v) = xF_cut b (fm (xh S b i))) :
    RQ (xTail S b i how v) ((mF_answer (mF_cell (mF_put (mF_cell (msFa T 0) b i).2 b i (fm (mF_cell (msFa T 0) b i).1)) b i).2 (mF_cell (mF_put (mF_cell (msFa T 0) b i).2 b i (fm (mF_cell (msFa T 0) b i).1)) b i).1).1, (mF_answer (mF_cell (mF_put (mF_cell (msFa T 0) b i).2 b i (fm (mF_cell (msFa T 0) b i).1)) b i).2 (mF_cell (mF_put (mF_cell (msFa T 0) b i).2 b i (fm (mF_cell (msFa T 0) b i).1)) b i).1).2) := by
  have R0 := RR_fa R 0
  by_cases ok : xok S b i
  · have hin := xok_in R.2.2.2.2.2.1 h5 ok
    have R1 := RR_put (fm (xh S b i)) R0 h5 hin
    have e1 : xF_put S b i (xF_changed b (xh S b i) how v) = xF_put S b i (fm (xh S b i)) := by
      unfold xF_put
      rw [hv ok]
    simp only [xTail, eal_ok ok, ↓reduceIte, e1, cell_ok R0 h5 ok rfl, put_ok (fm (xh S b i)) R0 h5 ok rfl, cell_ok R1 h5 ((xok_put b i _ b i).mpr ok) rfl, ans_0 _ (rfl : mFa (mPut (msFa T 0) b i (fm (xh S b i))) = 0)]
    exact ⟨rfl, R1⟩
  · have hne : ¬ mFa (msFa (msFa T 0) (xflt S b)) = 0 := xflt_ne h5
    simp only [xTail, eal_no ok, if_neg n10, cell_no R0 h5 ok rfl, put_f _ _ _ hne, cell_f _ _ hne, ans_f _ (xflt_ne h5)]
    exact ⟨rfl, RR_E R0 _⟩
theorem chd_gate {S : XS} {T : MS} (R : RR S T) {i : Int32} (how v : Int32) (ok : xok S 3 i) : xF_cut 3 (xF_changed 3 (xh S 3 i) how v) = xF_cut 3 (mF_gate (xh S 3 i) how v) := by
  have hin := xok_in R.2.2.2.2.2.1 vp_k3_5 ok
  have hw : xh S 3 i = 0 ∨ xh S 3 i = 1 := R.2.2.2.1 _ (vk_lt hin)
  have e : ∀ z : Int32, xF_cut 3 z = z &&& 1 := fun z => by
    unfold xF_cut
    simp only [if_neg (by decide : ¬ (3 : Int32) = 0), if_neg (by decide : ¬ (3 : Int32) = 1), if_neg (by decide : ¬ (3 : Int32) = 2), ↓reduceIte]
  rw [e, e, ← gate_eq v hw]
  unfold xF_changed
  rw [if_pos rfl]
theorem in4_cases {x : Int32} (h0 : ¬ x < 0) (h : ¬ 4 ≤ x) : x = 0 ∨ x = 1 ∨ x = 2 ∨ x = 3 := by
  obtain ⟨j, hj, rfl⟩ := vp_in_of (in_of' (k := 4) (by decide) h0 h) (by decide)
  rcases (show j = 0 ∨ j = 1 ∨ j = 2 ∨ j = 3 by omega) with rfl | rfl | rfl | rfl <;> decide
theorem xch {S : XS} {b i how v : Int32} (hb : ¬ xF_isBook b = 0) (h0 : ¬ how < 0) (h3 : how ≤ 3) (hl : ¬ (b = 2 ∧ (how = 0 ∨ how = 1) ∧ xF_isToldLoad v = 0)) : xF_change S b i how v = xTail S b i how v := by
  unfold xF_change
  rw [if_neg hb, if_neg h0, if_pos h3]
  by_cases b2 : b = 2
  · rw [if_pos b2]
    by_cases e0 : how = 0
    · rw [if_pos e0, if_neg (fun q => hl ⟨b2, Or.inl e0, q⟩)]; rfl
    · rw [if_neg e0]
      by_cases e1 : how = 1
      · rw [if_pos e1, if_neg (fun q => hl ⟨b2, Or.inr e1, q⟩)]; rfl
      · rw [if_neg e1]; rfl
  · rw [if_neg b2]; rfl
theorem chd_num {b : Int32} (b3 : ¬ b = 3) (w how v : Int32) : xF_changed b w how v = if how = 0 then w + v else if how = 1 then w + (-v) else if how = 2 then w + (if b = 2 then 8 else 1) else w + (if b = 2 then (-8) else (-1)) := by
  unfold xF_changed
  rw [if_neg b3]
  by_cases b2 : b = 2
  · simp only [if_pos b2, Int32.sub_eq_add_neg]
  · simp only [if_neg b2, Int32.sub_eq_add_neg]
theorem q_chN {S : XS} {T : MS} (R : RR S T) {b : Int32} (h5 : vp_in b 5) (i how v : Int32) : RQ (xTail S b i how v) (let q12 := mF_cell (msFa T 0) b i; let p := mF_put q12.2 b i (if b = 3 then mF_gate q12.1 how v else (if how = 0 then q12.1 + v else if how = 1 then q12.1 + (-v) else if how = 2 then q12.1 + (if b = 2 then 8 else 1) else q12.1 + (if b = 2 then (-8) else (-1)))); let r := mF_cell p b i; let u := mF_answer r.2 r.1; (u.1, u.2)) := by
  refine q_chg R h5 i how v (fun w => if b = 3 then mF_gate w how v else (if how = 0 then w + v else if how = 1 then w + (-v) else if how = 2 then w + (if b = 2 then 8 else 1) else w + (if b = 2 then (-8) else (-1)))) (fun ok => ?_)
  by_cases b3 : b = 3
  · subst b3
    show _ = xF_cut 3 (if (3 : Int32) = 3 then mF_gate (xh S 3 i) how v else _)
    rw [if_pos rfl]
    exact chd_gate R how v ok
  · show _ = xF_cut b (if b = 3 then mF_gate (xh S b i) how v else _)
    rw [if_neg b3, chd_num b3]
theorem q_change {S : XS} {T : MS} (R : RR S T) (b i how v : Int32) : RQ (xF_change S b i how v) (mF_change T b i how v) := by
  by_cases hb : xF_isBook b = 0
  · unfold xF_change mF_change
    rw [isBook_eq, if_pos hb, if_pos hb]; exact ⟨rfl, R⟩
  have h5 := xe_book rfl hb
  by_cases h0 : how < 0
  · unfold xF_change mF_change
    rw [isBook_eq, if_neg hb, if_neg hb, if_pos h0, if_pos h0]; exact ⟨rfl, R⟩
  by_cases h4 : 4 ≤ how
  · have h3 : ¬ how ≤ 3 := by
      rw [Int32.le_iff_toInt_le] at h4 ⊢
      rw [show (4 : Int32).toInt = 4 by decide] at h4
      rw [show (3 : Int32).toInt = 3 by decide]
      omega
    unfold xF_change mF_change
    rw [isBook_eq, if_neg hb, if_neg hb, if_neg h0, if_neg h0, if_neg h3, if_pos h4]; exact ⟨rfl, R⟩
  have h3 : how ≤ 3 := by
    rw [Int32.le_iff_toInt_le] at h4 ⊢
    rw [show (4 : Int32).toInt = 4 by decide] at h4
    rw [show (3 : Int32).toInt = 3 by decide]
    omega
  have h01 : ¬ 2 ≤ how ↔ (how = 0 ∨ how = 1) := by
    rcases in4_cases h0 h4 with rfl | rfl | rfl | rfl <;> decide
  by_cases hl : b = 2 ∧ (how = 0 ∨ how = 1) ∧ xF_isToldLoad v = 0
  · obtain ⟨b2, hh, hv⟩ := hl
    unfold xF_change mF_change
    rw [isBook_eq, isLoad_eq, if_neg hb, if_neg hb, if_neg h0, if_neg h0, if_pos h3, if_neg h4, if_pos b2, if_pos b2, if_neg (h01.mpr hh), if_pos hv]
    by_cases e0 : how = 0
    · rw [if_pos e0, if_pos hv]; exact ⟨rfl, R⟩
    · rw [if_neg e0, if_pos (hh.resolve_left e0), if_pos hv]; exact ⟨rfl, R⟩
  · rw [xch hb h0 h3 hl]
    have key := q_chN R h5 i how v
    have e : mF_change T b i how v = (let q12 := mF_cell (msFa T 0) b i; let p := mF_put q12.2 b i (if b = 3 then mF_gate q12.1 how v else (if how = 0 then q12.1 + v else if how = 1 then q12.1 + (-v) else if how = 2 then q12.1 + (if b = 2 then 8 else 1) else q12.1 + (if b = 2 then (-8) else (-1)))); let r := mF_cell p b i; let u := mF_answer r.2 r.1; (u.1, u.2)) := by
      unfold mF_change
      rw [isBook_eq, isLoad_eq, if_neg hb, if_neg h0, if_neg h4]
      generalize mF_cell (msFa T 0) b i = q12
      by_cases b2 : b = 2
      · rw [if_pos b2]
        by_cases g2 : 2 ≤ how
        · rw [if_pos g2]
          by_cases b3 : b = 3
          · by_cases e0 : how = 0
            · simp only [if_pos e0, if_pos b3]
            · by_cases e1 : how = 1
              · simp only [if_neg e0, if_pos e1, if_pos b3]
              · by_cases e2 : how = 2
                · simp only [if_neg e0, if_neg e1, if_pos e2, if_pos b3, if_pos b2]
                · simp only [if_neg e0, if_neg e1, if_neg e2, if_pos b3, if_pos b2]
          · by_cases e0 : how = 0
            · simp only [if_pos e0, if_neg b3]
            · by_cases e1 : how = 1
              · simp only [if_neg e0, if_pos e1, if_neg b3]
              · by_cases e2 : how = 2
                · simp only [if_neg e0, if_neg e1, if_pos e2, if_neg b3, if_pos b2]
                · simp only [if_neg e0, if_neg e1, if_neg e2, if_neg b3, if_pos b2]
        · rw [if_neg g2, if_neg (fun q => hl ⟨b2, h01.mp g2, q⟩)]
          by_cases b3 : b = 3
          · by_cases e0 : how = 0
            · simp only [if_pos e0, if_pos b3]
            · by_cases e1 : how = 1
              · simp only [if_neg e0, if_pos e1, if_pos b3]
              · by_cases e2 : how = 2
                · simp only [if_neg e0, if_neg e1, if_pos e2, if_pos b3, if_pos b2]
                · simp only [if_neg e0, if_neg e1, if_neg e2, if_pos b3, if_pos b2]
          · by_cases e0 : how = 0
            · simp only [if_pos e0, if_neg b3]
            · by_cases e1 : how = 1
              · simp only [if_neg e0, if_pos e1, if_neg b3]
              · by_cases e2 : how = 2
                · simp only [if_neg e0, if_neg e1, if_pos e2, if_neg b3, if_pos b2]
                · simp only [if_neg e0, if_neg e1, if_neg e2, if_neg b3, if_pos b2]
      · rw [if_neg b2]
        by_cases b3 : b = 3
        · by_cases e0 : how = 0
          · simp only [if_pos e0, if_pos b3]
          · by_cases e1 : how = 1
            · simp only [if_neg e0, if_pos e1, if_pos b3]
            · by_cases e2 : how = 2
              · simp only [if_neg e0, if_neg e1, if_pos e2, if_pos b3, if_neg b2]
              · simp only [if_neg e0, if_neg e1, if_neg e2, if_pos b3, if_neg b2]
        · by_cases e0 : how = 0
          · simp only [if_pos e0, if_neg b3]
          · by_cases e1 : how = 1
            · simp only [if_neg e0, if_pos e1, if_neg b3]
            · by_cases e2 : how = 2
              · simp only [if_neg e0, if_neg e1, if_pos e2, if_neg b3, if_neg b2]
              · simp only [if_neg e0, if_neg e1, if_neg e2, if_neg b3, if_neg b2]
    rw [e]
    exact key
