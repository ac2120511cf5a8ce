/-! the class' state beside the reference's: numbers -/
theorem tI24 : (24 : Int32).toInt = 24 := by decide
theorem tIm1 : (-1 : Int32).toInt = -1 := by decide
theorem tI0 : (0 : Int32).toInt = 0 := by decide
theorem near_eq (v lo hi : Int32) (h : lo.toInt ≤ hi.toInt) : xF_nearest v lo hi = if v ≤ hi then (if lo ≤ v then v else lo) else hi := by
  unfold xF_nearest
  apply Int32.toInt_inj.mp
  repeat' split
  all_goals simp only [Int32.lt_iff_toInt_lt, Int32.le_iff_toInt_le] at *
  all_goals omega
theorem and_mod (v m : Int32) (k : Nat) (hm : m.toBitVec.toNat = 2 ^ k - 1) : v &&& m = nI (v.toBitVec.toNat % 2 ^ k) := pk_and v k hm
theorem cut16 (v : Int32) : v.toInt16.toInt32 = if (v &&& 65535) ≤ 32767 then (v &&& 65535) else ((v &&& 65535) - 65536) := by
  rw [and_mod v 65535 16 (by decide)]
  have e : (v.toInt16.toInt32).toInt = Int.bmod (v.toBitVec.toNat : Int) 65536 := by
    rw [Int16.toInt_toInt32, Int32.toInt_toInt16]
    show Int.bmod v.toBitVec.toInt _ = _
    rw [BitVec.toInt_eq_toNat_bmod, Int.bmod_bmod_of_dvd (by decide)]
  generalize v.toBitVec.toNat = n at e ⊢
  have hw : n % 2 ^ 16 < 65536 := Nat.mod_lt _ (by decide)
  have hE : (n : Int) % ((65536 : Nat) : Int) = ((n % 2 ^ 16 : Nat) : Int) := by omega
  apply Int32.toInt_inj.mp
  rw [e, Int.bmod_def, hE]
  generalize n % 2 ^ 16 = w at hw ⊢
  rw [show (32767 : Int32) = nI 32767 by decide, show (65536 : Int32) = nI 65536 by decide]
  have hle : nI w ≤ nI 32767 ↔ w ≤ 32767 := nI_leI (by omega) (by decide)
  by_cases h : w ≤ 32767
  · rw [if_pos (hle.mpr h), if_pos (by omega), nI_toInt (by omega)]
  · rw [if_neg (fun q => h (hle.mp q)), if_neg (by omega), pk_sub_toInt (by omega) (by decide)]
theorem cut8 (v : Int32) : v.toInt8.toInt32 = if (v &&& 255) ≤ 127 then (v &&& 255) else ((v &&& 255) - 256) := by
  rw [and_mod v 255 8 (by decide)]
  have e : (v.toInt8.toInt32).toInt = Int.bmod (v.toBitVec.toNat : Int) 256 := by
    rw [Int8.toInt_toInt32, Int32.toInt_toInt8]
    show Int.bmod v.toBitVec.toInt _ = _
    rw [BitVec.toInt_eq_toNat_bmod, Int.bmod_bmod_of_dvd (by decide)]
  generalize v.toBitVec.toNat = n at e ⊢
  have hw : n % 2 ^ 8 < 256 := Nat.mod_lt _ (by decide)
  have hE : (n : Int) % ((256 : Nat) : Int) = ((n % 2 ^ 8 : Nat) : Int) := by omega
  apply Int32.toInt_inj.mp
  rw [e, Int.bmod_def, hE]
  generalize n % 2 ^ 8 = w at hw ⊢
  rw [show (127 : Int32) = nI 127 by decide, show (256 : Int32) = nI 256 by decide]
  have hle : nI w ≤ nI 127 ↔ w ≤ 127 := nI_leI (by omega) (by decide)
  by_cases h : w ≤ 127
  · rw [if_pos (hle.mpr h), if_pos (by omega), nI_toInt (by omega)]
  · rw [if_neg (fun q => h (hle.mp q)), if_neg (by omega), pk_sub_toInt (by omega) (by decide)]
theorem in5_cases {b : Int32} (h : vp_in b 5) : b = 0 ∨ b = 1 ∨ b = 2 ∨ b = 3 ∨ b = 4 := by
  obtain ⟨j, hj, rfl⟩ := vp_in_of h (by decide)
  rcases (show j = 0 ∨ j = 1 ∨ j = 2 ∨ j = 3 ∨ j = 4 by omega) with rfl | rfl | rfl | rfl | rfl <;> decide
theorem cut_eq {b v : Int32} (h : vp_in b 5) : mF_cut b v = xF_cut b v := by
  unfold mF_cut xF_cut
  rcases in5_cases h with rfl | rfl | rfl | rfl | rfl
  · simp only [if_pos]
  · simp only [if_neg (by decide : ¬ (1 : Int32) = 0), if_neg (by decide : ¬ (1 : Int32) = 3), if_pos, cut16]
  · simp only [if_neg (by decide : ¬ (2 : Int32) = 0), if_neg (by decide : ¬ (2 : Int32) = 3), if_neg (by decide : ¬ (2 : Int32) = 1), if_neg (by decide : ¬ (2 : Int32) = 4), if_pos, near_eq _ _ _ (by decide : (-2000000 : Int32).toInt ≤ (2000000 : Int32).toInt)]
  · simp only [if_neg (by decide : ¬ (3 : Int32) = 0), if_neg (by decide : ¬ (3 : Int32) = 1), if_neg (by decide : ¬ (3 : Int32) = 2), if_pos]
  · simp only [if_neg (by decide : ¬ (4 : Int32) = 0), if_neg (by decide : ¬ (4 : Int32) = 3), if_neg (by decide : ¬ (4 : Int32) = 1), if_neg (by decide : ¬ (4 : Int32) = 2), if_pos, cut8]
theorem told_eq (b v : Int32) : mF_told b v = xF_told b v := by
  unfold mF_told xF_told
  by_cases h : b = 2
  · rw [if_pos h, if_pos h, near_eq _ _ _ (by decide)]
  · rw [if_neg h, if_neg h]
theorem bit_01 (v : Int32) : v &&& 1 = 0 ∨ v &&& 1 = 1 := by
  rw [and_mod v 1 1 (by decide)]
  rcases (show v.toBitVec.toNat % 2 ^ 1 = 0 ∨ v.toBitVec.toNat % 2 ^ 1 = 1 by omega) with h | h
  · left; rw [h]; decide
  · right; rw [h]; decide
theorem i32_ext {x y : Int32} (h : ∀ i, i < 32 → x.toBitVec.getLsbD i = y.toBitVec.getLsbD i) : x = y := by
  have e : x.toBitVec = y.toBitVec := BitVec.eq_of_getLsbD_eq (fun i hi => h i hi)
  exact Int32.toBitVec_inj.mp e
theorem one_bit (i : Nat) : (1 : Int32).toBitVec.getLsbD i = decide (i = 0) := by
  show (1#32).getLsbD i = _
  rw [BitVec.getLsbD_one]
  simp
theorem or1 (v : Int32) : (1 ||| v) &&& 1 = 1 := by
  apply i32_ext
  intro i hi
  simp only [Int32.toBitVec_and, Int32.toBitVec_or, BitVec.getLsbD_and, BitVec.getLsbD_or, one_bit]
  cases decide (i = 0) <;> simp
theorem or0 (v : Int32) : (0 ||| v) = v := by
  apply i32_ext
  intro i hi
  simp only [Int32.toBitVec_or, BitVec.getLsbD_or]
  show ((0#32).getLsbD i || _) = _
  simp
theorem xor0 (v : Int32) : (0 ^^^ v) = v := by
  apply i32_ext
  intro i hi
  simp only [Int32.toBitVec_xor, BitVec.getLsbD_xor]
  show ((0#32).getLsbD i ^^ _) = _
  simp
theorem and0 (v : Int32) : (0 &&& v) = 0 := by
  apply i32_ext
  intro i hi
  simp only [Int32.toBitVec_and, BitVec.getLsbD_and]
  show ((0#32).getLsbD i && _) = (0#32).getLsbD i
  simp
theorem and1 (v : Int32) : (1 &&& v) &&& 1 = v &&& 1 := by
  apply i32_ext
  intro i hi
  simp only [Int32.toBitVec_and, BitVec.getLsbD_and, one_bit]
  cases decide (i = 0) <;> simp
theorem xor1 (v : Int32) : (1 ^^^ v) &&& 1 = (v &&& 1) ^^^ 1 := by
  apply i32_ext
  intro i hi
  simp only [Int32.toBitVec_and, Int32.toBitVec_xor, BitVec.getLsbD_and, BitVec.getLsbD_xor, one_bit]
  cases decide (i = 0) <;> simp
theorem gate_eq {was how : Int32} (v : Int32) (hw : was = 0 ∨ was = 1) : xF_changedGate was how v &&& 1 = mF_gate was how v &&& 1 := by
  unfold xF_changedGate mF_gate
  by_cases h0 : how = 0
  · rw [if_pos h0, if_pos h0]
    rcases hw with rfl | rfl
    · rw [or0, if_neg (by decide)]
      rcases bit_01 v with h | h
      · rw [h, if_neg (by decide)]; decide
      · rw [h, if_pos rfl]; decide
    · rw [or1, if_pos rfl]; decide
  · rw [if_neg h0, if_neg h0]
    by_cases h1 : how = 1
    · rw [if_pos h1, if_pos h1]
      rcases hw with rfl | rfl
      · rw [and0, if_neg (by decide)]
      · rw [and1, if_pos rfl]
        rcases bit_01 v with h | h
        · rw [h, if_neg (by decide)]; decide
        · rw [h, if_pos rfl]; decide
    · rw [if_neg h1, if_neg h1]
      by_cases h2 : how = 2
      · rw [if_pos h2, if_pos h2]
        rcases hw with rfl | rfl <;> decide
      · rw [if_neg h2, if_neg h2]
        rcases hw with rfl | rfl
        · rw [xor0]
          rcases bit_01 v with h | h
          · rw [h, if_neg (by decide)]; decide
          · rw [h, if_pos rfl]; decide
        · rw [xor1]
          rcases bit_01 v with h | h
          · rw [h, if_neg (by decide)]; decide
          · rw [h, if_pos rfl]; decide
