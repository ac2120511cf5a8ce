/-! the class' state beside the reference's: what holds between them, and the helpers -/
def RCh (S : XS) (T : MS) : Prop := (mCh T = 0 ∧ xRc S = -1) ∨ (¬ mCh T = 0 ∧ ¬ xRc S = -1 ∧ xRc S = mRw T ∧ xCc S = mAc T ∧ ∀ i j : Nat, (i : Int) < (mRw T).toInt → j < 24 → xP S i j = mP T (24 * i + j))
def RK (S : XS) (T : MS) : Prop := xBo S = mOu T ∧ xEo S = mOl T ∧ xFc S = mFs T ∧ xLf S = mLa T
def RR (S : XS) (T : MS) : Prop := xN S = mN T ∧ (∀ b, b < 5 → xC S b = mC T b) ∧ (∀ b i, b < 5 → i < 24 → xH S b i = mH T (24 * b + i)) ∧ (∀ i, i < 24 → xH S 3 i = 0 ∨ xH S 3 i = 1) ∧ RK S T ∧ xI S ∧ mI T ∧ RCh S T
def RQ (p : Int32 × XS) (q : Int32 × MS) : Prop := p.1 = q.1 ∧ RR p.2 q.2
def bflt (b : Int32) : Int32 := (-100000) - b
def lflt (b : Int32) : Int32 := (-200000) - b
def xflt (S : XS) (b : Int32) : Int32 := if xc S b = -1 then bflt b else lflt b
abbrev xE (S : XS) (f : Int32) : XS := xsLf (xsFc S (xFc S + 1)) f
abbrev mE (T : MS) (f : Int32) : MS := msLa (msFs (msFa T f) (mFs T + 1)) f
/-- the line is there -/
def xok (S : XS) (b i : Int32) : Prop := ¬ xc S b = -1 ∧ ¬ i < 0 ∧ i < xc S b
theorem n10 : ¬ (1 : Int32) = 0 := by decide
theorem RR_fa {S : XS} {T : MS} (R : RR S T) (v : Int32) : RR S (msFa T v) := R
theorem RR_E {S : XS} {T : MS} (R : RR S T) (f : Int32) : RR (xE S f) (mE T f) :=
  ⟨R.1, R.2.1, R.2.2.1, R.2.2.2.1, ⟨R.2.2.2.2.1.1, R.2.2.2.2.1.2.1, by show xFc S + 1 = mFs T + 1; rw [R.2.2.2.2.1.2.2.1], rfl⟩, R.2.2.2.2.2.1, R.2.2.2.2.2.2.1, R.2.2.2.2.2.2.2⟩
theorem bflt_ne {b : Int32} (h5 : vp_in b 5) : ¬ bflt b = 0 := ms_sub (x := 0) (-100000) h5 (by decide)
theorem lflt_ne {b : Int32} (h5 : vp_in b 5) : ¬ lflt b = 0 := ms_sub (x := 0) (-200000) h5 (by decide)
theorem xflt_ne {S : XS} {b : Int32} (h5 : vp_in b 5) : ¬ xflt S b = 0 := by
  unfold xflt
  split
  · exact bflt_ne h5
  · exact lflt_ne h5
theorem isBook_eq (b : Int32) : mF_isBook b = xF_isBook b := rfl
theorem isLoad_eq (b : Int32) : mF_isLoad b = xF_isToldLoad b := rfl
theorem cham_eq {S : XS} {T : MS} (R : RR S T) (b : Int32) : mF_isChamber T b = xF_isChamber S b := by
  unfold mF_isChamber xF_isChamber
  rw [R.1]
theorem C_eq {S : XS} {T : MS} (R : RR S T) {b : Int32} (h5 : vp_in b 5) : mc T b = xc S b := (R.2.1 _ (vk_lt h5)).symm
theorem C_lo {S : XS} {T : MS} (R : RR S T) {b : Int32} (h5 : vp_in b 5) : 0 ≤ mc T b ↔ ¬ xc S b = -1 := by
  have h := R.2.2.2.2.2.1.1 _ (vk_lt h5)
  rw [C_eq R h5, Int32.le_iff_toInt_le, ← Int32.toInt_inj, tI0, tIm1]
  show (0 ≤ (xC S b.toNatClampNeg).toInt) ↔ ¬ (xC S b.toNatClampNeg).toInt = -1
  omega
theorem C_lo' {S : XS} {T : MS} (R : RR S T) {b : Int32} (h5 : vp_in b 5) : 0 ≤ xc S b ↔ ¬ xc S b = -1 := by
  have h := C_lo R h5
  rw [C_eq R h5] at h
  exact h
theorem eab_ok {S : XS} {b : Int32} (h : ¬ xc S b = -1) : xF_endsAtBook S b = (0, S) := by
  unfold xF_endsAtBook
  rw [if_neg h]
theorem eab_no {S : XS} {b : Int32} (h : xc S b = -1) : xF_endsAtBook S b = (1, xE S (bflt b)) := by
  unfold xF_endsAtBook
  rw [if_pos h]
  rfl
theorem eal_ok {S : XS} {b i : Int32} (h : xok S b i) : xF_endsAtLine S b i = (0, S) := by
  simp only [xF_endsAtLine, eab_ok h.1, ↓reduceIte, if_neg h.2.1, if_pos h.2.2]
theorem eal_no {S : XS} {b i : Int32} (h : ¬ xok S b i) : xF_endsAtLine S b i = (1, xE S (xflt S b)) := by
  unfold xflt
  by_cases h1 : xc S b = -1
  · simp only [xF_endsAtLine, eab_no h1, if_neg n10, if_pos h1]
  · simp only [xF_endsAtLine, eab_ok h1, if_neg h1, ↓reduceIte]
    by_cases h2 : i < 0
    · rw [if_pos h2]; rfl
    · rw [if_neg h2]
      by_cases h3 : i < xc S b
      · exact absurd ⟨h1, h2, h3⟩ h
      · rw [if_neg h3]; rfl
theorem xok_in {S : XS} {b i : Int32} (hI : xI S) (h5 : vp_in b 5) (h : xok S b i) : vp_in i 24 := in_of (hI.1 _ (vk_lt h5)).2 h.2.1 h.2.2
theorem has_ok {S : XS} {T : MS} {b i : Int32} (R : RR S T) (h5 : vp_in b 5) (h : xok S b i) (hf : mFa T = 0) : mF_has T b i = (1, T) := by
  simp only [mF_has, if_pos hf, C_eq R h5, if_pos ((C_lo' R h5).mpr h.1), if_neg h.2.1, if_pos h.2.2]
theorem has_no {S : XS} {T : MS} {b i : Int32} (R : RR S T) (h5 : vp_in b 5) (h : ¬ xok S b i) (hf : mFa T = 0) : mF_has T b i = (0, msFa T (xflt S b)) := by
  have e1 : (-100000 : Int32) - b = bflt b := rfl
  have e2 : (-200000 : Int32) - b = lflt b := rfl
  unfold xflt
  by_cases h1 : xc S b = -1
  · simp only [mF_has, if_pos hf, if_neg (fun q => (C_lo R h5).mp q h1), e1, if_neg (bflt_ne h5), if_pos h1]
  · simp only [mF_has, if_pos hf, C_eq R h5, if_pos ((C_lo' R h5).mpr h1), e2, if_neg (lflt_ne h5), if_neg h1]
    by_cases h2 : i < 0
    · rw [if_pos h2]
    · rw [if_neg h2]
      by_cases h3 : i < xc S b
      · exact absurd ⟨h1, h2, h3⟩ h
      · rw [if_neg h3]
theorem has_f {T : MS} (b i : Int32) (hf : ¬ mFa T = 0) : mF_has T b i = (0, T) := by
  simp only [mF_has, if_neg hf]
theorem ixN {b i : Int32} {n : Nat} (hn : n ≤ 24) (h5 : vp_in b n) (hi : vp_in i 24) : Int32.toNatClampNeg ((24 * b) + i) = 24 * b.toNatClampNeg + i.toNatClampNeg := by
  obtain ⟨j, hj, rfl⟩ := vp_in_of h5 (by omega)
  obtain ⟨k, hk, rfl⟩ := vp_in_of hi (by decide)
  rw [show (24 : Int32) = nI 24 by decide, pk_mul, nI_add, nI_clamp (by omega), nI_clamp (by omega), nI_clamp (by omega)]
theorem H_eq {S : XS} {T : MS} (R : RR S T) {b i : Int32} (h5 : vp_in b 5) (hi : vp_in i 24) : mh T ((24 * b) + i) = xh S b i := by
  show mH T (Int32.toNatClampNeg ((24 * b) + i)) = _
  rw [ixN (by decide) h5 hi]
  exact (R.2.2.1 _ _ (vk_lt h5) (vk_lt hi)).symm
theorem cell_ok {S : XS} {T : MS} {b i : Int32} (R : RR S T) (h5 : vp_in b 5) (h : xok S b i) (hf : mFa T = 0) : mF_cell T b i = (xh S b i, T) := by
  simp only [mF_cell, has_ok R h5 h hf, if_neg n10, H_eq R h5 (xok_in R.2.2.2.2.2.1 h5 h)]
theorem cell_no {S : XS} {T : MS} {b i : Int32} (R : RR S T) (h5 : vp_in b 5) (h : ¬ xok S b i) (hf : mFa T = 0) : mF_cell T b i = (0, msFa T (xflt S b)) := by
  simp only [mF_cell, has_no R h5 h hf, ↓reduceIte]
theorem cell_f {T : MS} (b i : Int32) (hf : ¬ mFa T = 0) : mF_cell T b i = (0, T) := by
  simp only [mF_cell, has_f b i hf, ↓reduceIte]
abbrev mPut (T : MS) (b i v : Int32) : MS := msh T ((24 * b) + i) (xF_cut b v)
theorem put_ok {S : XS} {T : MS} {b i : Int32} (v : Int32) (R : RR S T) (h5 : vp_in b 5) (h : xok S b i) (hf : mFa T = 0) : mF_put T b i v = mPut T b i v := by
  simp only [mF_put, has_ok R h5 h hf, if_neg n10, cut_eq h5]
theorem put_no {S : XS} {T : MS} {b i : Int32} (v : Int32) (R : RR S T) (h5 : vp_in b 5) (h : ¬ xok S b i) (hf : mFa T = 0) : mF_put T b i v = msFa T (xflt S b) := by
  simp only [mF_put, has_no R h5 h hf, ↓reduceIte]
theorem put_f {T : MS} (b i v : Int32) (hf : ¬ mFa T = 0) : mF_put T b i v = T := by
  simp only [mF_put, has_f b i hf, ↓reduceIte]
theorem more_ok {S : XS} {T : MS} {b i : Int32} (v : Int32) (R : RR S T) (h5 : vp_in b 5) (h : xok S b i) (hf : mFa T = 0) : mF_more T b i v = mPut T b i (xh S b i + v) := by
  simp only [mF_more, has_ok R h5 h hf, if_neg n10, cut_eq h5, H_eq R h5 (xok_in R.2.2.2.2.2.1 h5 h)]
theorem more_no {S : XS} {T : MS} {b i : Int32} (v : Int32) (R : RR S T) (h5 : vp_in b 5) (h : ¬ xok S b i) (hf : mFa T = 0) : mF_more T b i v = msFa T (xflt S b) := by
  simp only [mF_more, has_no R h5 h hf, ↓reduceIte]
theorem more_f {T : MS} (b i v : Int32) (hf : ¬ mFa T = 0) : mF_more T b i v = T := by
  simp only [mF_more, has_f b i hf, ↓reduceIte]
theorem ans_0 {T : MS} (v : Int32) (hf : mFa T = 0) : mF_answer T v = (v, T) := by
  unfold mF_answer
  rw [if_pos hf]
theorem ans_f {T : MS} (v : Int32) {f : Int32} (hf : ¬ f = 0) : mF_answer (msFa T f) v = (f, mE T f) := by
  unfold mF_answer
  exact if_neg hf
theorem cut_gate (v : Int32) : xF_cut 3 v = 0 ∨ xF_cut 3 v = 1 := by
  have e : xF_cut 3 v = v &&& 1 := by
    unfold xF_cut
    simp only [if_neg (by decide : ¬ (3 : Int32) = 0), if_neg (by decide : ¬ (3 : Int32) = 1), if_neg (by decide : ¬ (3 : Int32) = 2), ↓reduceIte]
  rw [e]
  exact bit_01 v
theorem RR_put {S : XS} {T : MS} {b i : Int32} (v : Int32) (R : RR S T) (h5 : vp_in b 5) (hi : vp_in i 24) : RR (xF_put S b i v) (mPut T b i v) := by
  obtain ⟨r1, r2, r3, r4, r5, r6, r7, r8⟩ := R
  have hb := vk_lt h5
  have hk := vk_lt hi
  refine ⟨r1, r2, ?_, ?_, r5, r6, r7, r8⟩
  · intro b' i' hb' hi'
    show va_up (xH S) b.toNatClampNeg (upd (xH S b.toNatClampNeg) i.toNatClampNeg (xF_cut b v)) b' i' = upd (mH T) (Int32.toNatClampNeg ((24 * b) + i)) (xF_cut b v) (24 * b' + i')
    rw [ixN (by decide) h5 hi]
    by_cases e1 : b' = b.toNatClampNeg
    · subst e1
      rw [va_up_self]
      by_cases e2 : i' = i.toNatClampNeg
      · subst e2
        rw [pk_us, pk_us]
      · rw [pk_un e2, pk_un (by omega)]
        exact r3 _ _ hb' hi'
    · rw [va_up_ne _ _ e1, pk_un (by omega)]
      exact r3 _ _ hb' hi'
  · intro i' hi'
    show va_up (xH S) b.toNatClampNeg (upd (xH S b.toNatClampNeg) i.toNatClampNeg (xF_cut b v)) 3 i' = 0 ∨ va_up (xH S) b.toNatClampNeg (upd (xH S b.toNatClampNeg) i.toNatClampNeg (xF_cut b v)) 3 i' = 1
    by_cases e1 : 3 = b.toNatClampNeg
    · rw [← e1, va_up_self]
      by_cases e2 : i' = i.toNatClampNeg
      · subst e2
        rw [pk_us]
        have eb : b = 3 := by
          rcases in5_cases h5 with rfl | rfl | rfl | rfl | rfl
          · exact absurd e1 (by decide)
          · exact absurd e1 (by decide)
          · exact absurd e1 (by decide)
          · rfl
          · exact absurd e1 (by decide)
        rw [eb]
        exact cut_gate v
      · rw [pk_un e2]
        exact r4 _ hi'
    · rw [va_up_ne _ _ e1]
      exact r4 _ hi'
theorem xh_put_self {S : XS} (b i v : Int32) : xh (xF_put S b i v) b i = xF_cut b v := by
  show va_up (xH S) b.toNatClampNeg (upd (xH S b.toNatClampNeg) i.toNatClampNeg (xF_cut b v)) b.toNatClampNeg i.toNatClampNeg = _
  rw [va_up_self, pk_us]
theorem xh_put_line {S : XS} {i j : Int32} (b b' v : Int32) (h : ¬ i.toNatClampNeg = j.toNatClampNeg) : xh (xF_put S b j v) b' i = xh S b' i := by
  show va_up (xH S) b.toNatClampNeg (upd (xH S b.toNatClampNeg) j.toNatClampNeg (xF_cut b v)) b'.toNatClampNeg i.toNatClampNeg = _
  by_cases e : b'.toNatClampNeg = b.toNatClampNeg
  · rw [e, va_up_self, pk_un h]
    show _ = xH S b'.toNatClampNeg i.toNatClampNeg
    rw [e]
  · rw [va_up_ne _ _ e]
theorem xh_put_book {S : XS} {b b' : Int32} (i j v : Int32) (h : ¬ b'.toNatClampNeg = b.toNatClampNeg) : xh (xF_put S b j v) b' i = xh S b' i := by
  show va_up (xH S) b.toNatClampNeg (upd (xH S b.toNatClampNeg) j.toNatClampNeg (xF_cut b v)) b'.toNatClampNeg i.toNatClampNeg = _
  rw [va_up_ne _ _ h]
theorem xok_put {S : XS} (b i v b' i' : Int32) : xok (xF_put S b i v) b' i' ↔ xok S b' i' := Iff.rfl
theorem last_eq {S : XS} {T : MS} (R : RR S T) {c : Int32} (hc : ¬ xF_isChamber S c = 0) : (xF_isLast S c = 0 ↔ ¬ mN T ≤ c + 1) ∧ (xF_isLast S c = 0 ↔ ¬ c + 1 = mN T) ∧ ¬ c.toNatClampNeg = (c + 1).toNatClampNeg := by
  have hN := R.2.2.2.2.2.1.2.1
  have h24 := xe_cham R.2.2.2.2.2.1 rfl hc
  obtain ⟨k, hk, rfl⟩ := vp_in_of h24 (by decide)
  have hlt : ¬ xN S ≤ nI k := by
    intro h
    apply hc
    unfold xF_isChamber
    rw [if_pos h]
    split <;> rfl
  obtain ⟨n, hn, en⟩ : ∃ n : Nat, n < 24 ∧ xN S = nI (n + 1) := by
    refine ⟨(xN S).toInt.toNat - 1, by omega, ?_⟩
    apply Int32.toInt_inj.mp
    rw [nI_toInt (by omega)]
    omega
  rw [← R.1, en, nI_1]
  rw [en, nI_leI (by omega) (by omega)] at hlt
  have e1 : xF_isLast S (nI k) = if k = n then 1 else 0 := by
    unfold xF_isLast
    rw [en, nI_pred]
    by_cases h : k = n
    · rw [if_pos h, if_pos (by rw [h])]
    · rw [if_neg h, if_neg (fun q => h ((nI_eq (by omega) (by omega)).mp q))]
  rw [e1, nI_leI (by omega) (by omega), nI_eq (by omega) (by omega), nI_clamp (by omega), nI_clamp (by omega)]
  refine ⟨?_, ?_, by omega⟩
  · by_cases h : k = n
    · rw [if_pos h]; exact ⟨fun q => absurd q n10, fun q => absurd (by omega) q⟩
    · rw [if_neg h]; exact ⟨fun _ => by omega, fun _ => rfl⟩
  · by_cases h : k = n
    · rw [if_pos h]; exact ⟨fun q => absurd q n10, fun q => absurd (by omega) q⟩
    · rw [if_neg h]; exact ⟨fun _ => by omega, fun _ => rfl⟩
