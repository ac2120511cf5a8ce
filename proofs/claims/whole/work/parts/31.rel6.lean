/-! the chart -/
def rflt (S : XS) : Int32 := if xRc S = -1 then (-100005) else (-200005)
def cflt : Int32 := (-200006)
def rowok (S : XS) (r : Int32) : Prop := ¬ xRc S = -1 ∧ ¬ r < 0 ∧ r < xRc S
def plok (S : XS) (r c : Int32) : Prop := rowok S r ∧ ¬ c < 0 ∧ c < xCc S
theorem rflt_ne (S : XS) : ¬ rflt S = 0 := by
  unfold rflt
  split <;> decide
theorem cflt_ne : ¬ cflt = 0 := by decide
theorem ear_ok {S : XS} {r : Int32} (h : rowok S r) : xF_endsAtRow S r = (0, S) := by
  simp only [xF_endsAtRow, if_neg h.1, if_neg h.2.1, if_pos h.2.2]
theorem ear_no {S : XS} {r : Int32} (h : ¬ rowok S r) : xF_endsAtRow S r = (1, xE S (rflt S)) := by
  unfold rflt xF_endsAtRow
  by_cases h1 : xRc S = -1
  · rw [if_pos h1, if_pos h1]; rfl
  · rw [if_neg h1, if_neg h1]
    by_cases h2 : r < 0
    · rw [if_pos h2]; rfl
    · rw [if_neg h2]
      by_cases h3 : r < xRc S
      · exact absurd ⟨h1, h2, h3⟩ h
      · rw [if_neg h3]; rfl
theorem Ch_iff {S : XS} {T : MS} (R : RR S T) : mCh T = 0 ↔ xRc S = -1 := by
  rcases R.2.2.2.2.2.2.2 with ⟨h1, h2⟩ | ⟨h1, h2, -⟩
  · exact ⟨fun _ => h2, fun _ => h1⟩
  · exact ⟨fun q => absurd q h1, fun q => absurd q h2⟩
theorem Ch_in {S : XS} {T : MS} (R : RR S T) (h : ¬ xRc S = -1) : xRc S = mRw T ∧ xCc S = mAc T ∧ ∀ i j : Nat, (i : Int) < (mRw T).toInt → j < 24 → xP S i j = mP T (24 * i + j) := by
  rcases R.2.2.2.2.2.2.2 with ⟨h1, h2⟩ | ⟨h1, h2, h3⟩
  · exact absurd h2 h
  · exact h3
theorem hrow_ok {S : XS} {T : MS} {r : Int32} (R : RR S T) (h : rowok S r) (hf : mFa T = 0) : mF_hasRow T r = (1, msFa T 0) := by
  have hr : r < mRw T := by rw [← (Ch_in R h.1).1]; exact h.2.2
  simp only [mF_hasRow, if_pos hf, if_neg (fun q => h.1 ((Ch_iff R).mp q)), if_neg h.2.1, if_pos hr]
theorem hrow_no {S : XS} {T : MS} {r : Int32} (R : RR S T) (h : ¬ rowok S r) (hf : mFa T = 0) : mF_hasRow T r = (0, msFa T (rflt S)) := by
  unfold rflt
  by_cases h1 : xRc S = -1
  · simp only [mF_hasRow, if_pos hf, if_pos ((Ch_iff R).mpr h1), if_pos h1]
  · simp only [mF_hasRow, if_pos hf, if_neg (fun q => h1 ((Ch_iff R).mp q)), if_neg h1]
    by_cases h2 : r < 0
    · rw [if_pos h2]
    · rw [if_neg h2]
      by_cases h3 : r < mRw T
      · exact absurd ⟨h1, h2, by rw [(Ch_in R h1).1]; exact h3⟩ h
      · rw [if_neg h3]
theorem hrow_f {T : MS} (r : Int32) (hf : ¬ mFa T = 0) : mF_hasRow T r = (0, T) := by
  simp only [mF_hasRow, if_neg hf]
theorem eap_ok {S : XS} {r c : Int32} (h : plok S r c) : xF_endsAtPlace S r c = (0, S) := by
  simp only [xF_endsAtPlace, ear_ok h.1, ↓reduceIte, if_neg h.2.1, if_pos h.2.2]
theorem eap_row {S : XS} {r : Int32} (c : Int32) (h : ¬ rowok S r) : xF_endsAtPlace S r c = (1, xE S (rflt S)) := by
  simp only [xF_endsAtPlace, ear_no h, if_neg n10]
theorem eap_col {S : XS} {r c : Int32} (hr : rowok S r) (h : ¬ plok S r c) : xF_endsAtPlace S r c = (1, xE S cflt) := by
  simp only [xF_endsAtPlace, ear_ok hr, ↓reduceIte]
  by_cases h2 : c < 0
  · rw [if_pos h2]; rfl
  · rw [if_neg h2]
    by_cases h3 : c < xCc S
    · exact absurd ⟨hr, h2, h3⟩ h
    · rw [if_neg h3]; rfl
theorem hpl_ok {S : XS} {T : MS} {r c : Int32} (R : RR S T) (h : plok S r c) (hf : mFa T = 0) : mF_hasPlace T r c = (1, msFa T 0) := by
  have hc : c < mAc (msFa T 0) := by
    show c < mAc T
    rw [← (Ch_in R h.1.1).2.1]; exact h.2.2
  have h0 : mFa (msFa T 0) = 0 := rfl
  simp only [mF_hasPlace, hrow_ok R h.1 hf, if_neg n10, if_neg h.2.1, if_pos hc, ↓reduceIte]
theorem hpl_row {S : XS} {T : MS} {r : Int32} (c : Int32) (R : RR S T) (h : ¬ rowok S r) (hf : mFa T = 0) : mF_hasPlace T r c = (0, msFa T (rflt S)) := by
  have hne : ¬ mFa (msFa T (rflt S)) = 0 := rflt_ne S
  simp only [mF_hasPlace, hrow_no R h hf, ↓reduceIte, if_neg hne]
theorem hpl_col {S : XS} {T : MS} {r c : Int32} (R : RR S T) (hr : rowok S r) (h : ¬ plok S r c) (hf : mFa T = 0) : mF_hasPlace T r c = (0, msFa T cflt) := by
  simp only [mF_hasPlace, hrow_ok R hr hf, if_neg n10]
  by_cases h2 : c < 0
  · rw [if_pos h2]; rfl
  · rw [if_neg h2]
    by_cases h3 : c < mAc (msFa T 0)
    · exact absurd ⟨hr, h2, by rw [(Ch_in R hr.1).2.1]; exact h3⟩ h
    · rw [if_neg h3]; rfl
theorem hpl_f {T : MS} (r c : Int32) (hf : ¬ mFa T = 0) : mF_hasPlace T r c = (0, T) := by
  simp only [mF_hasPlace, hrow_f r hf, ↓reduceIte, if_neg hf]
theorem row_in {S : XS} {r : Int32} (hI : xI S) (h : rowok S r) : vp_in r 24 := in_of hI.2.2.1.2 h.2.1 h.2.2
theorem col_in {S : XS} {r c : Int32} (hI : xI S) (h : plok S r c) : vp_in c 24 := in_of hI.2.2.2.2 h.2.1 h.2.2
theorem P_eq {S : XS} {T : MS} (R : RR S T) {r c : Int32} (h : plok S r c) : mp T ((24 * r) + c) = xp S r c := by
  have hr := row_in (RRI R) h.1
  have hc := col_in (RRI R) h
  obtain ⟨e1, -, e3⟩ := Ch_in R h.1.1
  show mP T (Int32.toNatClampNeg ((24 * r) + c)) = _
  rw [ixN (Nat.le_refl 24) hr hc]
  refine (e3 _ _ ?_ (vk_lt hc)).symm
  rw [← e1]
  have h1 := h.1.2.2
  rw [Int32.lt_iff_toInt_lt] at h1
  obtain ⟨j, hj, rfl⟩ := vp_in_of hr (by decide)
  rw [nI_clamp (by omega)]
  rw [nI_toInt (by omega)] at h1
  exact h1
theorem q_columns {S : XS} {T : MS} (R : RR S T) (r : Int32) : RQ (xF_columns S r) (mF_columns T r) := by
  have R0 := RR_fa R 0
  have hf : mFa (msFa T 0) = 0 := rfl
  unfold xF_columns mF_columns
  generalize msFa T 0 = T1 at *
  by_cases ok : rowok S r
  · have h0 : mFa (msFa T1 0) = 0 := rfl
    simp only [ear_ok ok, ↓reduceIte, hrow_ok R0 ok hf, if_neg n10, ans_0 _ h0]
    exact ⟨(Ch_in R0 ok.1).2.1, RR_fa R0 0⟩
  · simp only [ear_no ok, if_neg n10, hrow_no R0 ok hf, ↓reduceIte, ans_f _ (rflt_ne S)]
    exact ⟨rfl, RR_E R0 _⟩
theorem q_chart {S : XS} {T : MS} (R : RR S T) (r c : Int32) : RQ (xF_chart S r c) (mF_chart T r c) := by
  have R0 := RR_fa R 0
  have hf : mFa (msFa T 0) = 0 := rfl
  unfold xF_chart mF_chart
  generalize msFa T 0 = T1 at *
  by_cases hr : rowok S r
  · by_cases ok : plok S r c
    · have h0 : mFa (msFa T1 0) = 0 := rfl
      simp only [eap_ok ok, ↓reduceIte, hpl_ok R0 ok hf, if_neg n10, ans_0 _ h0]
      exact ⟨(P_eq (RR_fa R0 0) ok).symm, RR_fa R0 0⟩
    · simp only [eap_col hr ok, if_neg n10, hpl_col R0 hr ok hf, ↓reduceIte, ans_f _ cflt_ne]
      exact ⟨rfl, RR_E R0 _⟩
  · simp only [eap_row c hr, if_neg n10, hpl_row c R0 hr hf, ↓reduceIte, ans_f _ (rflt_ne S)]
    exact ⟨rfl, RR_E R0 _⟩
theorem RR_pl {S : XS} {T : MS} (R : RR S T) {r c : Int32} (h : plok S r c) (v : Int32) : RR (xsp S r c v) (msp T ((24 * r) + c) v) := by
  have hr := row_in (RRI R) h.1
  have hc := col_in (RRI R) h
  have hcl := vk_lt hc
  obtain ⟨e1, e2, e3⟩ := Ch_in R h.1.1
  have hch : ¬ mCh T = 0 := fun q => h.1.1 ((Ch_iff R).mp q)
  obtain ⟨r1, r2, r3, r4, r5, r6, r7, r8⟩ := R
  refine ⟨r1, r2, r3, r4, r5, r6, r7, Or.inr ⟨hch, h.1.1, e1, e2, ?_⟩⟩
  intro i j hi hj
  show va_up (xP S) r.toNatClampNeg (upd (xP S r.toNatClampNeg) c.toNatClampNeg v) i j = upd (mP T) (Int32.toNatClampNeg ((24 * r) + c)) v (24 * i + j)
  rw [ixN (Nat.le_refl 24) hr hc]
  by_cases ei : i = r.toNatClampNeg
  · subst ei
    rw [va_up_self]
    by_cases ej : j = c.toNatClampNeg
    · subst ej
      rw [pk_us, pk_us]
    · rw [pk_un ej, pk_un (by omega)]
      exact e3 _ _ hi hj
  · rw [va_up_ne _ _ ei, pk_un (by omega)]
    exact e3 _ _ hi hj
theorem q_note {S : XS} {T : MS} (R : RR S T) (b i r c : Int32) : RQ (xF_note S b i r c) (mF_note T b i r c) := by
  have R0 := RR_fa R 0
  have hf : mFa (msFa T 0) = 0 := rfl
  unfold xF_note mF_note
  rw [isBook_eq]
  by_cases hb : xF_isBook b = 0
  · rw [if_pos hb, if_pos hb]; exact ⟨rfl, R⟩
  rw [if_neg hb, if_neg hb]
  have h5 := xe_book rfl hb
  generalize msFa T 0 = T1 at *
  by_cases ok : xok S b i
  · simp only [eal_ok ok, ↓reduceIte, cell_ok R0 h5 ok hf]
    by_cases hr : rowok S r
    · by_cases hp : plok S r c
      · have h0 : mFa (msp (msFa T1 0) ((24 * r) + c) (xh S b i)) = 0 := rfl
        simp only [eap_ok hp, ↓reduceIte, hpl_ok R0 hp hf, if_neg n10, ans_0 _ h0]
        exact ⟨rfl, RR_pl (RR_fa R0 0) hp _⟩
      · simp only [eap_col hr hp, if_neg n10, hpl_col R0 hr hp hf, ↓reduceIte, ans_f _ cflt_ne]
        exact ⟨rfl, RR_E R0 _⟩
    · simp only [eap_row c hr, if_neg n10, hpl_row c R0 hr hf, ↓reduceIte, ans_f _ (rflt_ne S)]
      exact ⟨rfl, RR_E R0 _⟩
  · have hne : ¬ mFa (msFa T1 (xflt S b)) = 0 := xflt_ne h5
    simp only [eal_no ok, if_neg n10, cell_no R0 h5 ok hf, hpl_f _ _ hne, ↓reduceIte, ans_f _ (xflt_ne h5)]
    exact ⟨rfl, RR_E R0 _⟩
theorem surveyL_x {p1 : Int32} {r : Nat} (hr : r ≤ 24) (ep : p1 = nI r) : ∀ (n k : Nat) (S : XS), k ≤ 24 → 25 ≤ k + n → xF_surveyL p1 n (nI k) S = xsP S (fun i => if k ≤ i ∧ i < r then (fun _ => 0) else xP S i) := by
  intro n
  induction n with
  | zero => intro k S h1 h2; exact absurd h2 (by omega)
  | succ n ih =>
    intro k S hk hkn
    have hle : p1 ≤ nI k ↔ r ≤ k := by rw [ep]; exact nI_leI (by omega) (by omega)
    rw [xF_surveyL]
    by_cases h : r ≤ k
    · rw [if_pos (hle.mpr h)]
      have e : (fun i => if k ≤ i ∧ i < r then (fun _ => (0 : Int32)) else xP S i) = xP S := by
        funext i
        rw [if_neg (by omega)]
      rw [e]
    · rw [if_neg (fun q => h (hle.mp q)), nI_1, ih (k + 1) _ (by omega) (by omega), nI_clamp (by omega)]
      have e : (fun i => if k + 1 ≤ i ∧ i < r then (fun _ => (0 : Int32)) else va_up (xP S) k (fun _ => 0) i) = (fun i => if k ≤ i ∧ i < r then (fun _ => (0 : Int32)) else xP S i) := by
        funext i
        by_cases e1 : i = k
        · rw [if_neg (by omega), if_pos (by omega), e1, va_up_self]
        · rw [va_up_ne _ _ e1]
          by_cases e2 : k + 1 ≤ i ∧ i < r
          · rw [if_pos e2, if_pos (by omega)]
          · rw [if_neg e2, if_neg (by omega)]
      show (xN S, xC S, xH S, (fun i => if k + 1 ≤ i ∧ i < r then (fun _ => (0 : Int32)) else va_up (xP S) k (fun _ => 0) i), xRc S, xCc S, xBo S, xEo S, xFc S, xLf S) = _
      rw [e]
theorem surveyL_m : ∀ (n k : Nat) (T : MS), k ≤ 576 → 577 ≤ k + n → mF_surveyL n (nI k) T = msP T (fun j => if k ≤ j ∧ j < 576 then 0 else mP T j) := by
  intro n
  induction n with
  | zero => intro k T h1 h2; exact absurd h2 (by omega)
  | succ n ih =>
    intro k T hk hkn
    have hle : (576 : Int32) ≤ nI k ↔ 576 ≤ k := by rw [show (576 : Int32) = nI 576 by decide]; exact nI_leI (by decide) (by omega)
    rw [mF_surveyL]
    by_cases h : 576 ≤ k
    · rw [if_pos (hle.mpr h)]
      have e : (fun j => if k ≤ j ∧ j < 576 then (0 : Int32) else mP T j) = mP T := by
        funext j
        rw [if_neg (by omega)]
      rw [e]
    · rw [if_neg (fun q => h (hle.mp q)), nI_1, ih (k + 1) _ (by omega) (by omega)]
      have e : (fun j => if k + 1 ≤ j ∧ j < 576 then (0 : Int32) else upd (mP T) (Int32.toNatClampNeg (nI k)) 0 j) = (fun j => if k ≤ j ∧ j < 576 then (0 : Int32) else mP T j) := by
        funext j
        rw [nI_clamp (by omega)]
        by_cases e1 : j = k
        · rw [if_neg (by omega), if_pos (by omega), e1, pk_us]
        · rw [pk_un e1]
          by_cases e2 : k + 1 ≤ j ∧ j < 576
          · rw [if_pos e2, if_pos (by omega)]
          · rw [if_neg e2, if_neg (by omega)]
      show (mN T, mC T, mH T, (fun j => if k + 1 ≤ j ∧ j < 576 then (0 : Int32) else upd (mP T) (Int32.toNatClampNeg (nI k)) 0 j), mCh T, mRw T, mAc T, mOu T, mOl T, mFs T, mLa T, mFa T) = _
      rw [e]
theorem q_survey {S : XS} {T : MS} (R : RR S T) (p1 p2 : Int32) : RQ (xF_survey S p1 p2) (mF_survey T p1 p2) := by
  unfold xF_survey mF_survey
  by_cases h1 : 24 < p1
  · rw [if_pos h1, if_pos h1]; exact ⟨rfl, R⟩
  rw [if_neg h1, if_neg h1]
  by_cases h2 : p2 ≤ 24
  rotate_left
  · rw [if_neg h2, if_neg h2]; exact ⟨rfl, R⟩
  rw [if_pos h2, if_pos h2]
  by_cases h3 : p1 < 0
  · rw [if_pos h3, if_pos h3]; exact ⟨rfl, R⟩
  rw [if_neg h3, if_neg h3]
  by_cases h4 : 0 ≤ p2
  rotate_left
  · rw [if_neg h4, if_neg h4]; exact ⟨rfl, R⟩
  rw [if_pos h4, if_pos h4]
  rw [Int32.lt_iff_toInt_lt, tI24] at h1
  rw [Int32.le_iff_toInt_le, tI24] at h2
  rw [Int32.lt_iff_toInt_lt, tI0] at h3
  rw [Int32.le_iff_toInt_le, tI0] at h4
  obtain ⟨r, hr, ep⟩ : ∃ r : Nat, r ≤ 24 ∧ p1 = nI r := by
    refine ⟨p1.toInt.toNat, by omega, ?_⟩
    apply Int32.toInt_inj.mp
    rw [nI_toInt (by omega)]
    omega
  have ex := surveyL_x hr ep 25 0 S (by decide) (by decide)
  have em := surveyL_m 577 0 (msAc (msRw (msCh T 1) p1) p2) (by decide) (by decide)
  rw [nI_0] at ex em
  rw [ex, em]
  have et : p1.toInt = (r : Int) := by rw [ep, nI_toInt (by omega)]
  obtain ⟨r1, r2, r3, r4, r5, r6, r7, r8⟩ := R
  refine ⟨rfl, r1, r2, r3, r4, r5, ⟨r6.1, r6.2.1, ?_, ?_⟩, ⟨r7.1, r7.2.1, ?_, ?_⟩, Or.inr ⟨n10, ?_, rfl, rfl, ?_⟩⟩
  · show -1 ≤ p1.toInt ∧ p1.toInt ≤ 24
    omega
  · show 0 ≤ p2.toInt ∧ p2.toInt ≤ 24
    omega
  · show 0 ≤ p1.toInt ∧ p1.toInt ≤ 24
    omega
  · show 0 ≤ p2.toInt ∧ p2.toInt ≤ 24
    omega
  · show ¬ p1 = -1
    intro q
    rw [q, tIm1] at et
    omega
  · intro i j hi hj
    have hi : (i : Int) < p1.toInt := hi
    show (if 0 ≤ i ∧ i < r then (fun _ => (0 : Int32)) else xP S i) j = if 0 ≤ 24 * i + j ∧ 24 * i + j < 576 then 0 else mP T (24 * i + j)
    rw [if_pos (by omega), if_pos (by omega)]
theorem RR_init (p1 : Int32) : RR (xF_init p1) (mF_init p1) := by
  have e : xF_nearest p1 1 24 = if 1 ≤ p1 then (if p1 ≤ 24 then p1 else 24) else 1 := by
    rw [near_eq _ _ _ (by decide)]
    apply Int32.toInt_inj.mp
    have h1 : (1 : Int32).toInt = 1 := by decide
    repeat' split
    all_goals simp only [Int32.le_iff_toInt_le, tI24, h1] at *
    all_goals omega
  have hb : 1 ≤ (xF_nearest p1 1 24).toInt ∧ (xF_nearest p1 1 24).toInt ≤ 24 := by
    rw [e]
    have h1 : (1 : Int32).toInt = 1 := by decide
    repeat' split
    all_goals simp only [Int32.le_iff_toInt_le, tI24, h1] at *
    all_goals omega
  have hm : 1 ≤ (if 1 ≤ p1 then (if p1 ≤ 24 then p1 else 24) else (1 : Int32)).toInt ∧ (if 1 ≤ p1 then (if p1 ≤ 24 then p1 else 24) else (1 : Int32)).toInt ≤ 24 := by
    rw [← e]; exact hb
  refine ⟨e, fun _ _ => rfl, fun _ _ _ _ => rfl, fun _ _ => Or.inl rfl, ⟨rfl, rfl, rfl, rfl⟩, ⟨fun _ _ => ?_, hb, ?_, ?_⟩, ⟨fun _ _ => ?_, hm, ?_, ?_⟩, Or.inl ⟨rfl, rfl⟩⟩
  · exact (by decide : -1 ≤ (-1 : Int32).toInt ∧ (-1 : Int32).toInt ≤ 24)
  · exact (by decide : -1 ≤ (-1 : Int32).toInt ∧ (-1 : Int32).toInt ≤ 24)
  · exact (by decide : 0 ≤ (0 : Int32).toInt ∧ (0 : Int32).toInt ≤ 24)
  · exact (by decide : -1 ≤ (-1 : Int32).toInt ∧ (-1 : Int32).toInt ≤ 24)
  · exact (by decide : 0 ≤ (0 : Int32).toInt ∧ (0 : Int32).toInt ≤ 24)
  · exact (by decide : 0 ≤ (0 : Int32).toInt ∧ (0 : Int32).toInt ≤ 24)
