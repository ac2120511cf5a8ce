theorem RRI {S : XS} {T : MS} (R : RR S T) : xI S := R.2.2.2.2.2.1
theorem tallyL_eq {S : XS} {T : MS} (R : RR S T) {b : Int32} (h5 : vp_in b 5) : ∀ (n k : Nat) (z : Int32), k ≤ 24 → xF_tallyL S b n (nI k) z = mF_tallyL T b n (nI k) z := by
  intro n
  induction n with
  | zero => intro k z _; rfl
  | succ n ih =>
    intro k z hk
    rw [xF_tallyL, mF_tallyL, C_eq R h5]
    by_cases h : xc S b ≤ nI k
    · rw [if_pos h, if_pos h]
    · obtain ⟨hin, hk1⟩ := xl_in (N := 24) (by decide) hk rfl ((RRI R).1 _ (vk_lt h5)).2 h
      rw [if_neg h, if_neg h, H_eq R h5 hin, nI_1]
      exact ih (k + 1) _ hk1
theorem q_tally {S : XS} {T : MS} (R : RR S T) (b : Int32) : RQ (xF_tally S b) (mF_tally T b) := by
  have e1 : (-100000 : Int32) - b = bflt b := rfl
  by_cases hb : xF_isBook b = 0
  · unfold xF_tally mF_tally
    rw [isBook_eq, if_pos hb, if_pos hb]; exact ⟨rfl, R⟩
  · have h5 := xe_book rfl hb
    by_cases h : xc S b = -1
    · simp only [xF_tally, mF_tally, isBook_eq, if_neg hb, eab_no h, if_neg n10, if_neg (fun q => (C_lo R h5).mp q h), e1, ans_f _ (bflt_ne h5)]
      exact ⟨rfl, RR_E R _⟩
    · have e := tallyL_eq (RR_fa R 0) h5 25 0 0 (by decide)
      rw [nI_0] at e
      simp only [xF_tally, mF_tally, isBook_eq, if_neg hb, eab_ok h, ↓reduceIte, if_pos ((C_lo R h5).mpr h), ans_0 _ (rfl : mFa (msFa T 0) = 0)]
      exact ⟨e, RR_fa R 0⟩
theorem C_neg {S : XS} {T : MS} (R : RR S T) {b : Int32} (h5 : vp_in b 5) : mc T b < 0 ↔ xc S b = -1 := by
  have h := C_lo R h5
  rw [Int32.le_iff_toInt_le] at h
  rw [Int32.lt_iff_toInt_lt]
  constructor
  · intro q
    by_cases e : xc S b = -1
    · exact e
    · have := h.mpr e; omega
  · intro q
    have : ¬ (0 : Int32).toInt ≤ (mc T b).toInt := fun z => h.mp z q
    omega
theorem keptL_eq {S : XS} {T : MS} (R : RR S T) : ∀ (n k : Nat) (z : Int32), k ≤ 5 → xF_keptL S n (nI k) z = mF_lookL T n (nI k) z := by
  intro n
  induction n with
  | zero => intro k z _; rfl
  | succ n ih =>
    intro k z hk
    rw [xF_keptL, mF_lookL]
    by_cases h : 5 ≤ nI k
    · rw [if_pos h, if_pos h]
    · obtain ⟨hin, hk1⟩ := xl_in (N := 5) (by decide) hk rfl (by decide) h
      rw [if_neg h, if_neg h, nI_1]
      by_cases h2 : xc S (nI k) = -1
      · rw [if_pos h2, if_pos ((C_neg R hin).mpr h2), Int32.add_zero]
        exact ih (k + 1) _ hk1
      · rw [if_neg h2, if_neg (fun q => h2 ((C_neg R hin).mp q))]
        exact ih (k + 1) _ hk1
theorem q_look {S : XS} {T : MS} (R : RR S T) (p : Int32) : xF_look S p = mF_look T p := by
  have hk := keptL_eq R 6 0 0 (by decide)
  rw [nI_0] at hk
  obtain ⟨r1, r2, r3, r4, ⟨k1, k2, k3, k4⟩, r6, r7, r8⟩ := R
  unfold xF_look mF_look xF_booksKept
  by_cases h5 : p = 5
  · subst h5
    simp only [if_neg (by decide : ¬ (5 : Int32) = 0), if_neg (by decide : ¬ (5 : Int32) = 1), if_neg (by decide : ¬ (5 : Int32) = 2), if_neg (by decide : ¬ (5 : Int32) = 3), if_neg (by decide : ¬ (5 : Int32) = 4), ↓reduceIte]
    exact hk
  · rw [if_neg h5, if_neg h5, r1, k1, k2, k3, k4]
theorem copyL_f {a b : Int32} : ∀ (n : Nat) (i : Int32) (T : MS), ¬ mFa T = 0 → mF_copyL a b n i T = T := by
  intro n
  induction n with
  | zero => intro i T _; rfl
  | succ n ih =>
    intro i T hf
    rw [mF_copyL, put_f _ _ _ hf, ih (i + 1) T hf]
    split <;> rfl
theorem copyL_eq {a b : Int32} (ha : vp_in a 5) (hb : vp_in b 5) : ∀ (n k : Nat) (S : XS) (T : MS), RR S T → mFa T = 0 → k ≤ 24 → 25 ≤ k + n → RQ (xF_copyL a b n (nI k) S) (mF_answer (mF_copyL a b n (nI k) T) (mc (mF_copyL a b n (nI k) T) a)) := by
  intro n
  induction n with
  | zero => intro k S T _ _ h1 h2; exact absurd h2 (by omega)
  | succ n ih =>
    intro k S T R hf hk hkn
    rw [xF_copyL, mF_copyL, C_eq R ha]
    by_cases h : xc S a ≤ nI k
    · rw [if_pos h, if_pos h, ans_0 _ hf]
      exact ⟨(C_eq R ha).symm, R⟩
    · obtain ⟨hin, hk1⟩ := xl_in (N := 24) (by decide) hk rfl ((RRI R).1 _ (vk_lt ha)).2 h
      rw [if_neg h, if_neg h, H_eq R ha hin, told_eq]
      by_cases ok : xok S b (nI k)
      · simp only [eal_ok ok, ↓reduceIte, put_ok _ R hb ok hf, nI_1]
        exact ih (k + 1) _ _ (RR_put _ R hb hin) hf hk1 (by omega)
      · have hne : ¬ mFa (msFa T (xflt S b)) = 0 := xflt_ne hb
        simp only [eal_no ok, if_neg n10, put_no _ R hb ok hf, copyL_f n _ _ hne, ans_f _ (xflt_ne hb)]
        exact ⟨rfl, RR_E R _⟩
theorem q_copy {S : XS} {T : MS} (R : RR S T) (a b : Int32) : RQ (xF_copy S a b) (mF_copy T a b) := by
  have e1 : (-100000 : Int32) - a = bflt a := rfl
  unfold xF_copy mF_copy
  rw [isBook_eq, isBook_eq]
  by_cases ha : xF_isBook a = 0
  · rw [if_pos ha, if_pos ha]; exact ⟨rfl, R⟩
  rw [if_neg ha, if_neg ha]
  by_cases hb : xF_isBook b = 0
  · rw [if_pos hb, if_pos hb]; exact ⟨rfl, R⟩
  rw [if_neg hb, if_neg hb]
  by_cases hab : a = b
  · rw [if_pos hab, if_pos hab]; exact ⟨rfl, R⟩
  rw [if_neg hab, if_neg hab]
  have ha5 := xe_book rfl ha
  have hb5 := xe_book rfl hb
  by_cases h : xc S a = -1
  · have hne : ¬ mFa (msFa T (bflt a)) = 0 := bflt_ne ha5
    simp only [eab_no h, if_neg n10, if_neg (fun q => (C_lo R ha5).mp q h), e1, copyL_f 25 0 _ hne, ans_f _ (bflt_ne ha5)]
    exact ⟨rfl, RR_E R _⟩
  · simp only [eab_ok h, ↓reduceIte, if_pos ((C_lo R ha5).mpr h)]
    have := copyL_eq ha5 hb5 25 0 S (msFa T 0) (RR_fa R 0) rfl (by decide) (by decide)
    rw [nI_0] at this
    exact this
theorem q_shut {S : XS} {T : MS} (R : RR S T) (c : Int32) : RQ (xF_shut S c) (mF_shut T c) := by
  have R0 := RR_fa R 0
  unfold xF_shut mF_shut
  rw [cham_eq R]
  by_cases hc : xF_isChamber S c = 0
  · rw [if_pos hc, if_pos hc]; exact ⟨rfl, R⟩
  rw [if_neg hc, if_neg hc]
  by_cases ok : xok S 3 c
  · have R1 := RR_put 0 R0 vp_k3_5 (xok_in (RRI R) vp_k3_5 ok)
    simp only [eal_ok ok, ↓reduceIte, cell_ok R0 vp_k3_5 ok rfl, put_ok 0 R0 vp_k3_5 ok rfl, ans_0 _ (rfl : mFa (mPut (msFa T 0) 3 c 0) = 0)]
    exact ⟨rfl, R1⟩
  · have hne : ¬ mFa (msFa (msFa T 0) (xflt S 3)) = 0 := xflt_ne vp_k3_5
    simp only [eal_no ok, if_neg n10, cell_no R0 vp_k3_5 ok rfl, put_f _ _ _ hne, ans_f _ (xflt_ne vp_k3_5)]
    exact ⟨rfl, RR_E R0 _⟩
theorem q_sluice {S : XS} {T : MS} (R : RR S T) (c cm : Int32) : RQ (xF_sluice S c cm) (mF_sluice T c cm) := by
  have R0 := RR_fa R 0
  unfold xF_sluice mF_sluice
  rw [cham_eq R]
  by_cases hc : xF_isChamber S c = 0
  · rw [if_pos hc, if_pos hc]; exact ⟨rfl, R⟩
  rw [if_neg hc, if_neg hc]
  by_cases ok : xok S 1 c
  · have R1 := RR_put (xh S 1 c + (-cm)) R0 vp_k1_5 (xok_in (RRI R) vp_k1_5 ok)
    have ok1 : xok (xF_put S 1 c (xh S 1 c + (-cm))) 1 c := ok
    have hf1 : mFa (mPut (msFa T 0) 1 c (xh S 1 c + (-cm))) = 0 := rfl
    obtain ⟨l1, -, l3⟩ := last_eq R1 (c := c) hc
    simp only [eal_ok ok, ↓reduceIte, more_ok (-cm) R0 vp_k1_5 ok rfl, Int32.sub_eq_add_neg, cell_ok R1 vp_k1_5 ok1 hf1]
    generalize mPut (msFa T 0) 1 c (xh S 1 c + (-cm)) = T1 at *
    generalize xF_put S 1 c (xh S 1 c + (-cm)) = S1 at *
    by_cases hl : xF_isLast S1 c = 0
    · rw [if_pos hl, if_neg (l1.mp hl)]
      by_cases ok2 : xok S1 1 (c + 1)
      · have R2 := RR_put (xh S1 1 (c + 1) + cm) R1 vp_k1_5 (xok_in (RRI R1) vp_k1_5 ok2)
        have hf2 : mFa (mPut T1 1 (c + 1) (xh S1 1 (c + 1) + cm)) = 0 := hf1
        simp only [eal_ok ok2, ↓reduceIte, more_ok cm R1 vp_k1_5 ok2 hf1, ans_0 _ hf2]
        exact ⟨xh_put_line 1 1 _ l3, R2⟩
      · simp only [eal_no ok2, if_neg n10, more_no cm R1 vp_k1_5 ok2 hf1, ans_f _ (xflt_ne vp_k1_5)]
        exact ⟨rfl, RR_E R1 _⟩
    · rw [if_neg hl, if_pos (Decidable.not_not.mp (fun q => hl (l1.mpr q)))]
      simp only [ans_0 _ hf1]
      exact ⟨rfl, R1⟩
  · have hne : ¬ mFa (msFa (msFa T 0) (xflt S 1)) = 0 := xflt_ne vp_k1_5
    simp only [eal_no ok, if_neg n10, more_no (-cm) R0 vp_k1_5 ok rfl, cell_f _ _ hne, more_f _ _ _ hne, ans_f _ (xflt_ne vp_k1_5), ite_self]
    exact ⟨rfl, RR_E R0 _⟩
theorem q_open {S : XS} {T : MS} (R : RR S T) (c : Int32) : RQ (xF_open S c) (mF_open T c) := by
  have R0 := RR_fa R 0
  have gate : ∀ {T1 : MS}, RR S T1 → mFa T1 = 0 → RQ (if (xF_endsAtLine S 3 c).1 = 0 then (0, xF_put (xF_endsAtLine S 3 c).2 3 c 1) else (xLf (xF_endsAtLine S 3 c).2, (xF_endsAtLine S 3 c).2)) ((mF_answer (mF_put T1 3 c 1) 0).1, (mF_answer (mF_put T1 3 c 1) 0).2) := by
    intro T1 R1 hf
    by_cases ok : xok S 3 c
    · have hf2 : mFa (mPut T1 3 c 1) = 0 := hf
      simp only [eal_ok ok, ↓reduceIte, put_ok 1 R1 vp_k3_5 ok hf, ans_0 _ hf2]
      exact ⟨rfl, RR_put 1 R1 vp_k3_5 (xok_in (RRI R1) vp_k3_5 ok)⟩
    · simp only [eal_no ok, if_neg n10, put_no 1 R1 vp_k3_5 ok hf, ans_f _ (xflt_ne vp_k3_5)]
      exact ⟨rfl, RR_E R1 _⟩
  unfold xF_open mF_open
  rw [cham_eq R]
  by_cases hc : xF_isChamber S c = 0
  · rw [if_pos hc, if_pos hc]; exact ⟨rfl, R⟩
  rw [if_neg hc, if_neg hc]
  by_cases ok : xok S 1 c
  · obtain ⟨l1, -, -⟩ := last_eq R0 (c := c) hc
    have hf : mFa (msFa T 0) = 0 := rfl
    simp only [eal_ok ok, ↓reduceIte, cell_ok R0 vp_k1_5 ok hf]
    generalize msFa T 0 = T1 at *
    by_cases hl : xF_isLast S c = 0
    · rw [if_pos hl, if_neg (l1.mp hl)]
      by_cases ok2 : xok S 1 (c + 1)
      · simp only [eal_ok ok2, ↓reduceIte, cell_ok R0 vp_k1_5 ok2 hf, if_pos hf]
        by_cases he : xh S 1 c = xh S 1 (c + 1)
        · rw [if_pos he, if_pos he]
          exact gate R0 hf
        · rw [if_neg he, if_neg he]
          exact ⟨rfl, R0⟩
      · have hne : ¬ mFa (msFa T1 (xflt S 1)) = 0 := xflt_ne vp_k1_5
        simp only [eal_no ok2, if_neg n10, cell_no R0 vp_k1_5 ok2 hf, if_neg hne, put_f _ _ _ hne, ans_f _ (xflt_ne vp_k1_5)]
        exact ⟨rfl, RR_E R0 _⟩
    · rw [if_neg hl, if_pos (Decidable.not_not.mp (fun q => hl (l1.mpr q)))]
      by_cases he : xh S 1 c = 0
      · rw [if_pos he, if_pos he]
        exact gate R0 hf
      · rw [if_neg he, if_neg he]
        exact ⟨rfl, R0⟩
  · have hne : ¬ mFa (msFa (msFa T 0) (xflt S 1)) = 0 := xflt_ne vp_k1_5
    simp only [eal_no ok, if_neg n10, cell_no R0 vp_k1_5 ok rfl, cell_f _ _ hne, if_neg hne, put_f _ _ _ hne, ans_f _ (xflt_ne vp_k1_5), ite_self]
    exact ⟨rfl, RR_E R0 _⟩
