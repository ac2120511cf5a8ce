theorem RQ_mk {S : XS} {T : MS} (v : Int32) (R : RR S T) : RQ (v, S) (v, T) := ⟨rfl, R⟩
/-- what a barge's arrival leaves -/
def xArr (S : XS) (c sg ld : Int32) : XS := xF_put (xF_put (xF_put S 2 c ld) 0 c sg) 4 c (xh (xF_put (xF_put S 2 c ld) 0 c sg) 4 c + 1)
def mArr (T : MS) (c sg ld : Int32) : MS := mF_more (mF_put (mF_put T 2 c ld) 0 c sg) 4 c 1
theorem xok_arr {S : XS} (c sg ld b i : Int32) : xok (xArr S c sg ld) b i ↔ xok S b i := Iff.rfl
theorem arr_eq {S : XS} {T : MS} (R : RR S T) (hf : mFa T = 0) (c sg ld : Int32) :
    (xF_endsAtArrival S c sg ld = (0, xArr S c sg ld) ∧ RR (xArr S c sg ld) (mArr T c sg ld) ∧ mFa (mArr T c sg ld) = 0 ∧ xok S 4 c) ∨
    (∃ (S' : XS) (T' : MS) (f : Int32), ¬ f = 0 ∧ xF_endsAtArrival S c sg ld = (1, xE S' f) ∧ mArr T c sg ld = msFa T' f ∧ RR S' T') := by
  by_cases ok2 : xok S 2 c
  · have hin := xok_in (RRI R) vp_k2_5 ok2
    have R1 := RR_put ld R vp_k2_5 hin
    have hf1 : mFa (mPut T 2 c ld) = 0 := hf
    by_cases ok0 : xok S 0 c
    · have ok0' : xok (xF_put S 2 c ld) 0 c := ok0
      have R2 := RR_put sg R1 vp_k0_5 hin
      have hf2 : mFa (mPut (mPut T 2 c ld) 0 c sg) = 0 := hf
      by_cases ok4 : xok S 4 c
      · have ok4' : xok (xF_put (xF_put S 2 c ld) 0 c sg) 4 c := ok4
        have em : mArr T c sg ld = mPut (mPut (mPut T 2 c ld) 0 c sg) 4 c (xh (xF_put (xF_put S 2 c ld) 0 c sg) 4 c + 1) := by
          unfold mArr
          rw [put_ok ld R vp_k2_5 ok2 hf, put_ok sg R1 vp_k0_5 ok0' hf1, more_ok 1 R2 vp_k4_5 ok4' hf2]
        left
        refine ⟨?_, ?_, ?_, ok4⟩
        · simp only [xArr, xF_endsAtArrival, eal_ok ok2, eal_ok ok0', eal_ok ok4', ↓reduceIte]
        · rw [em]; unfold xArr; exact RR_put _ R2 vp_k4_5 hin
        · rw [em]; exact hf
      · have ok4' : ¬ xok (xF_put (xF_put S 2 c ld) 0 c sg) 4 c := ok4
        right
        refine ⟨xF_put (xF_put S 2 c ld) 0 c sg, mPut (mPut T 2 c ld) 0 c sg, xflt (xF_put (xF_put S 2 c ld) 0 c sg) 4, xflt_ne vp_k4_5, ?_, ?_, R2⟩
        · simp only [xF_endsAtArrival, eal_ok ok2, eal_ok ok0', eal_no ok4', ↓reduceIte, if_neg n10]
        · unfold mArr
          rw [put_ok ld R vp_k2_5 ok2 hf, put_ok sg R1 vp_k0_5 ok0' hf1, more_no 1 R2 vp_k4_5 ok4' hf2]
    · have ok0' : ¬ xok (xF_put S 2 c ld) 0 c := ok0
      right
      refine ⟨xF_put S 2 c ld, mPut T 2 c ld, xflt (xF_put S 2 c ld) 0, xflt_ne vp_k0_5, ?_, ?_, R1⟩
      · simp only [xF_endsAtArrival, eal_ok ok2, eal_no ok0', ↓reduceIte, if_neg n10]
      · have hne : ¬ mFa (msFa (mPut T 2 c ld) (xflt (xF_put S 2 c ld) 0)) = 0 := xflt_ne vp_k0_5
        unfold mArr
        rw [put_ok ld R vp_k2_5 ok2 hf, put_no sg R1 vp_k0_5 ok0' hf1, more_f _ _ _ hne]
  · right
    refine ⟨S, T, xflt S 2, xflt_ne vp_k2_5, ?_, ?_, R⟩
    · simp only [xF_endsAtArrival, eal_no ok2, if_neg n10]
    · have hne : ¬ mFa (msFa T (xflt S 2)) = 0 := xflt_ne vp_k2_5
      unfold mArr
      rw [put_no ld R vp_k2_5 ok2 hf, put_f _ _ _ hne, more_f _ _ _ hne]
theorem arr_f {T : MS} (c sg ld : Int32) (hf : ¬ mFa T = 0) : mArr T c sg ld = T := by
  unfold mArr
  rw [put_f _ _ _ hf, put_f _ _ _ hf, more_f _ _ _ hf]
theorem cut_0 (v : Int32) : xF_cut 0 v = v &&& 65535 := by
  unfold xF_cut
  rw [if_pos rfl]
theorem q_enter {S : XS} {T : MS} (R : RR S T) (sg ld : Int32) : RQ (xF_enter S sg ld) (mF_enter T sg ld) := by
  have R0 := RR_fa R 0
  unfold xF_enter mF_enter
  rw [cut_0]
  by_cases h1 : sg &&& 65535 = 0
  · rw [if_pos h1, if_pos h1]; exact ⟨rfl, R⟩
  rw [if_neg h1, if_neg h1]
  by_cases h2 : ld < 0
  · rw [if_pos h2, if_pos h2]; exact ⟨rfl, R⟩
  rw [if_neg h2, if_neg h2]
  by_cases h3 : ld ≤ 16000
  rotate_left
  · rw [if_neg h3, if_neg h3]; exact ⟨rfl, R⟩
  rw [if_pos h3, if_pos h3]
  have hf : mFa (msFa T 0) = 0 := rfl
  generalize msFa T 0 = T1 at *
  by_cases ok : xok S 0 0
  · simp only [eal_ok ok, ↓reduceIte, cell_ok R0 vp_k0_5 ok hf, if_pos hf]
    by_cases h4 : xh S 0 0 = 0
    rotate_left
    · rw [if_neg h4, if_neg h4]; exact ⟨rfl, R0⟩
    rw [if_pos h4, if_pos h4]
    by_cases ok1 : xok S 1 0
    · simp only [eal_ok ok1, ↓reduceIte, cell_ok R0 vp_k1_5 ok1 hf, if_pos hf]
      by_cases h5 : ld ≤ 8 * xh S 1 0
      rotate_left
      · rw [if_neg h5, if_neg h5]; exact ⟨rfl, R0⟩
      rw [if_pos h5, if_pos h5]
      have eM : mF_more (mF_put (mF_put T1 2 0 ld) 0 0 sg) 4 0 1 = mArr T1 0 sg ld := rfl
      rcases arr_eq R0 hf 0 sg ld with ⟨a1, a2, a3, a4⟩ | ⟨S', T', f, hne, a1, a2, a3⟩
      · have ok4 : xok (xArr S 0 sg ld) 4 0 := (xok_arr 0 sg ld 4 0).mpr a4
        simp only [a1, ↓reduceIte, eM, cell_ok a2 vp_k4_5 ok4 a3, ans_0 _ a3]
        exact RQ_mk _ a2
      · have hn : ¬ mFa (msFa T' f) = 0 := hne
        simp only [a1, if_neg n10, eM, a2, cell_f _ _ hn, ans_f _ hne]
        exact ⟨rfl, RR_E a3 _⟩
    · have hne : ¬ mFa (msFa T1 (xflt S 1)) = 0 := xflt_ne vp_k1_5
      simp only [eal_no ok1, if_neg n10, cell_no R0 vp_k1_5 ok1 hf, if_neg hne, put_f _ _ _ hne, more_f _ _ _ hne, cell_f _ _ hne, ans_f _ (xflt_ne vp_k1_5)]
      exact ⟨rfl, RR_E R0 _⟩
  · have hne : ¬ mFa (msFa T1 (xflt S 0)) = 0 := xflt_ne vp_k0_5
    simp only [eal_no ok, if_neg n10, cell_no R0 vp_k0_5 ok hf, if_neg hne, put_f _ _ _ hne, more_f _ _ _ hne, cell_f _ _ hne, ans_f _ (xflt_ne vp_k0_5)]
    exact ⟨rfl, RR_E R0 _⟩
def mPassT (T : MS) (p1 sg : Int32) : Int32 × MS := (if (p1 + 1) = (mN T) then (let q157 := mF_cell T 2 p1; (if (mFa q157.2) = 0 then (let q166 := mF_put (msOl (msOu q157.2 ((mOu q157.2) + 1)) ((mOl (msOu q157.2 ((mOu q157.2) + 1))) + q157.1)) 2 p1 0; (let q168 := mF_put q166 0 p1 0; (let q170 := mF_answer q168 q157.1; (q170.1, q170.2)))) else (let q160 := mF_put q157.2 2 p1 0; (let q162 := mF_put q160 0 p1 0; (let q164 := mF_answer q162 q157.1; (q164.1, q164.2)))))) else (let q135 := mF_cell T 0 (p1 + 1); (if (mFa q135.2) = 0 then (if q135.1 = 0 then (let q148 := mF_moved q135.2 p1 sg; (let q150 := mF_put q148.2 2 p1 0; (let q152 := mF_put q150 0 p1 0; (let q154 := mF_answer q152 q148.1; (q154.1, q154.2))))) else ((-4), q135.2)) else (let q138 := mF_moved q135.2 p1 sg; (let q140 := mF_put q138.2 2 p1 0; (let q142 := mF_put q140 0 p1 0; (let q144 := mF_answer q142 q138.1; (q144.1, q144.2))))))))
theorem pass_m (T : MS) (c : Int32) : mF_pass T c = if mF_isChamber T c = 0 then ((-300000), T) else (if mFa (mF_cell (msFa T 0) 3 c).2 = 0 then (if (mF_cell (msFa T 0) 3 c).1 = 0 then ((-2), (mF_cell (msFa T 0) 3 c).2) else (if mFa (mF_cell (mF_cell (msFa T 0) 3 c).2 0 c).2 = 0 then (if (mF_cell (mF_cell (msFa T 0) 3 c).2 0 c).1 = 0 then ((-3), (mF_cell (mF_cell (msFa T 0) 3 c).2 0 c).2) else mPassT (mF_cell (mF_cell (msFa T 0) 3 c).2 0 c).2 c (mF_cell (mF_cell (msFa T 0) 3 c).2 0 c).1) else mPassT (mF_cell (mF_cell (msFa T 0) 3 c).2 0 c).2 c (mF_cell (mF_cell (msFa T 0) 3 c).2 0 c).1)) else (if mFa (mF_cell (mF_cell (msFa T 0) 3 c).2 0 c).2 = 0 then (if (mF_cell (mF_cell (msFa T 0) 3 c).2 0 c).1 = 0 then ((-3), (mF_cell (mF_cell (msFa T 0) 3 c).2 0 c).2) else mPassT (mF_cell (mF_cell (msFa T 0) 3 c).2 0 c).2 c (mF_cell (mF_cell (msFa T 0) 3 c).2 0 c).1) else mPassT (mF_cell (mF_cell (msFa T 0) 3 c).2 0 c).2 c (mF_cell (mF_cell (msFa T 0) 3 c).2 0 c).1)) := by
  unfold mF_pass mPassT
  rfl
theorem moved_eq (T : MS) (c sg : Int32) : mF_moved T c sg = ((mF_cell T 2 c).1, mArr (mF_cell T 2 c).2 (c + 1) sg (mF_cell T 2 c).1) := rfl
theorem passT_f (T : MS) (c sg f : Int32) (hne : ¬ f = 0) : mPassT (msFa T f) c sg = (f, mE T f) := by
  have hn : ¬ mFa (msFa T f) = 0 := hne
  simp only [mPassT, moved_eq, cell_f _ _ hn, if_neg hn, put_f _ _ _ hn, arr_f _ _ _ hn, ans_f _ hne, ite_self]
theorem RR_out {S : XS} {T : MS} (R : RR S T) (ld : Int32) : RR (xsEo (xsBo S ((xBo S) + 1)) ((xEo (xsBo S ((xBo S) + 1))) + ld)) (msOl (msOu T ((mOu T) + 1)) ((mOl (msOu T ((mOu T) + 1))) + ld)) :=
  ⟨R.1, R.2.1, R.2.2.1, R.2.2.2.1, ⟨by show xBo S + 1 = mOu T + 1; rw [R.2.2.2.2.1.1], by show xEo S + ld = mOl T + ld; rw [R.2.2.2.2.1.2.1], R.2.2.2.2.1.2.2⟩, R.2.2.2.2.2.1, R.2.2.2.2.2.2.1, R.2.2.2.2.2.2.2⟩
/-- the barge leaves chamber c: LOADS and SIGNS are 0 there -/
theorem leave_eq {S : XS} {T : MS} (R : RR S T) (hf : mFa T = 0) {c : Int32} (ok2 : xok S 2 c) (ok0 : xok S 0 c) {ld : Int32} (hl : xh S 2 c = ld) : RQ (xF_leave S c) ((mF_answer (mF_put (mF_put T 2 c 0) 0 c 0) ld).1, (mF_answer (mF_put (mF_put T 2 c 0) 0 c 0) ld).2) := by
  have hin := xok_in (RRI R) vp_k2_5 ok2
  have R1 := RR_put 0 R vp_k2_5 hin
  have hf1 : mFa (mPut T 2 c 0) = 0 := hf
  have ok0' : xok (xF_put S 2 c 0) 0 c := ok0
  have R2 := RR_put 0 R1 vp_k0_5 hin
  have hf2 : mFa (mPut (mPut T 2 c 0) 0 c 0) = 0 := hf
  rw [put_ok 0 R vp_k2_5 ok2 hf, put_ok 0 R1 vp_k0_5 ok0' hf1, ans_0 _ hf2]
  exact ⟨hl, R2⟩
theorem q_pass {S : XS} {T : MS} (R : RR S T) (c : Int32) : RQ (xF_pass S c) (mF_pass T c) := by
  have R0 := RR_fa R 0
  rw [pass_m, cham_eq R]
  unfold xF_pass
  by_cases hc : xF_isChamber S c = 0
  · rw [if_pos hc, if_pos hc]; exact ⟨rfl, R⟩
  rw [if_neg hc, if_neg hc]
  obtain ⟨-, l2, l3⟩ := last_eq R0 (c := c) hc
  have hf : mFa (msFa T 0) = 0 := rfl
  generalize msFa T 0 = T1 at *
  by_cases ok3 : xok S 3 c
  rotate_left
  · have hne : ¬ mFa (msFa T1 (xflt S 3)) = 0 := xflt_ne vp_k3_5
    simp only [eal_no ok3, if_neg n10, cell_no R0 vp_k3_5 ok3 hf, if_neg hne, cell_f _ _ hne, passT_f _ _ _ _ (xflt_ne vp_k3_5)]
    exact ⟨rfl, RR_E R0 _⟩
  simp only [eal_ok ok3, ↓reduceIte, cell_ok R0 vp_k3_5 ok3 hf, if_pos hf]
  by_cases h3 : xh S 3 c = 0
  · rw [if_pos h3, if_pos h3]; exact ⟨rfl, R0⟩
  rw [if_neg h3, if_neg h3]
  by_cases ok0 : xok S 0 c
  rotate_left
  · have hne : ¬ mFa (msFa T1 (xflt S 0)) = 0 := xflt_ne vp_k0_5
    simp only [eal_no ok0, if_neg n10, cell_no R0 vp_k0_5 ok0 hf, if_neg hne, passT_f _ _ _ _ (xflt_ne vp_k0_5)]
    exact ⟨rfl, RR_E R0 _⟩
  simp only [eal_ok ok0, ↓reduceIte, cell_ok R0 vp_k0_5 ok0 hf, if_pos hf]
  by_cases h0 : xh S 0 c = 0
  · rw [if_pos h0, if_pos h0]; exact ⟨rfl, R0⟩
  rw [if_neg h0, if_neg h0]
  by_cases hl : xF_isLast S c = 0
  · rw [if_pos hl]
    unfold mPassT
    rw [if_neg (l2.mp hl)]
    simp only [moved_eq, xF_goOn]
    by_cases okn : xok S 0 (c + 1)
    rotate_left
    · have hne : ¬ mFa (msFa T1 (xflt S 0)) = 0 := xflt_ne vp_k0_5
      simp only [eal_no okn, if_neg n10, cell_no R0 vp_k0_5 okn hf, if_neg hne, cell_f _ _ hne, arr_f _ _ _ hne, put_f _ _ _ hne, ans_f _ (xflt_ne vp_k0_5)]
      exact ⟨rfl, RR_E R0 _⟩
    simp only [eal_ok okn, ↓reduceIte, cell_ok R0 vp_k0_5 okn hf, if_pos hf]
    by_cases hn : xh S 0 (c + 1) = 0
    rotate_left
    · rw [if_neg hn, if_neg hn]; exact ⟨rfl, R0⟩
    rw [if_pos hn, if_pos hn]
    by_cases ok2 : xok S 2 c
    rotate_left
    · have hne : ¬ mFa (msFa T1 (xflt S 2)) = 0 := xflt_ne vp_k2_5
      simp only [eal_no ok2, if_neg n10, cell_no R0 vp_k2_5 ok2 hf, arr_f _ _ _ hne, put_f _ _ _ hne, ans_f _ (xflt_ne vp_k2_5)]
      exact ⟨rfl, RR_E R0 _⟩
    simp only [eal_ok ok2, ↓reduceIte, cell_ok R0 vp_k2_5 ok2 hf]
    rcases arr_eq R0 hf (c + 1) (xh S 0 c) (xh S 2 c) with ⟨a1, a2, a3, a4⟩ | ⟨S', T', f, hne, a1, a2, a3⟩
    · simp only [a1, ↓reduceIte]
      refine leave_eq a2 a3 (c := c) ((xok_arr _ _ _ _ _).mpr ok2) ((xok_arr _ _ _ _ _).mpr ok0) ?_
      unfold xArr
      rw [xh_put_line 4 2 _ l3, xh_put_line 0 2 _ l3, xh_put_line 2 2 _ l3]
    · have hn2 : ¬ mFa (msFa T' f) = 0 := hne
      simp only [a1, if_neg n10, a2, put_f _ _ _ hn2, ans_f _ hne]
      exact ⟨rfl, RR_E a3 _⟩
  · rw [if_neg hl]
    unfold mPassT
    rw [if_pos (Decidable.not_not.mp (fun q => hl (l2.mpr q)))]
    simp only [xF_goOut]
    by_cases ok2 : xok S 2 c
    rotate_left
    · have hne : ¬ mFa (msFa T1 (xflt S 2)) = 0 := xflt_ne vp_k2_5
      simp only [eal_no ok2, if_neg n10, cell_no R0 vp_k2_5 ok2 hf, if_neg hne, put_f _ _ _ hne, ans_f _ (xflt_ne vp_k2_5)]
      exact ⟨rfl, RR_E R0 _⟩
    simp only [eal_ok ok2, ↓reduceIte, cell_ok R0 vp_k2_5 ok2 hf, if_pos hf]
    exact leave_eq (RR_out R0 (xh S 2 c)) hf (c := c) ok2 ok0 rfl
