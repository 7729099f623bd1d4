theorem nar8 (v : Int64) : (v <<< ((56 : Int32).toInt64 &&& 63)) >>> ((56 : Int32).toInt64 &&& 63) = v.toInt32.toInt8.toInt32.toInt64 := by
  rw [show ((56 : Int32).toInt64 &&& 63) = 56 from by decide]
  apply Int64.toBitVec_inj.mp
  have h56 : (((56 : Int64).toBitVec.smod 64).toNat) = 56 := by decide
  have hsl : (v <<< (56 : Int64)).toBitVec = v.toBitVec <<< 56 := by
    rw [Int64.toBitVec_shiftLeft]
    show v.toBitVec <<< (((56 : Int64).toBitVec.smod 64).toNat) = _
    rw [h56]
  rw [Int32.toBitVec_toInt64, Int8.toBitVec_toInt32, Int32.toBitVec_toInt8, Int64.toBitVec_toInt32]
  apply BitVec.eq_of_getLsbD_eq
  intro i hi
  show ((v <<< (56 : Int64)).toBitVec.sshiftRight (((56 : Int64).toBitVec.smod 64).toNat)).getLsbD i = _
  rw [h56, hsl]
  have k8 : ∀ j, j < 8 → (((v.toBitVec.signExtend 32).signExtend 8).getLsbD j) = v.toBitVec.getLsbD j := by
    intro j hj
    rw [BitVec.getLsbD_signExtend, BitVec.getLsbD_signExtend]
    simp only [show j < 8 by omega, show j < 32 by omega, show j < 64 by omega, decide_true, Bool.true_and, if_true]
  have m8 : ((v.toBitVec.signExtend 32).signExtend 8).msb = v.toBitVec.getLsbD 7 := by
    rw [BitVec.msb_eq_getLsbD_last]
    exact k8 7 (by decide)
  generalize (v.toBitVec.signExtend 32).signExtend 8 = X at k8 m8 ⊢
  have k32 : ∀ j, j < 32 → ((X.signExtend 32).getLsbD j) = v.toBitVec.getLsbD (if j < 8 then j else 7) := by
    intro j hj
    rw [BitVec.getLsbD_signExtend]
    by_cases h : j < 8
    · simp only [hj, h, decide_true, Bool.true_and, if_true, k8 j h]
    · simp only [hj, h, decide_true, Bool.true_and, if_false, m8]
  have m32 : (X.signExtend 32).msb = v.toBitVec.getLsbD 7 := by
    rw [BitVec.msb_eq_getLsbD_last]
    exact k32 31 (by decide)
  rw [BitVec.getLsbD_signExtend, m32, BitVec.getLsbD_sshiftRight, BitVec.msb_eq_getLsbD_last, BitVec.getLsbD_shiftLeft, BitVec.getLsbD_shiftLeft]
  have hL : (decide (64 - 1 < 64) && !decide (64 - 1 < 56) && v.toBitVec.getLsbD (64 - 1 - 56)) = v.toBitVec.getLsbD 7 := rfl
  rw [hL]
  by_cases h8 : i < 8
  · have h32 : i < 32 := by omega
    rw [if_pos h32, k32 i h32, if_pos h8, if_pos (show 56 + i < 64 by omega)]
    simp only [hi, show ¬ 64 ≤ i by omega, show 56 + i < 64 by omega, show ¬ 56 + i < 56 by omega, show 56 + i - 56 = i by omega, decide_true, decide_false, Bool.not_false, Bool.true_and]
  · rw [if_neg (show ¬ 56 + i < 64 by omega)]
    by_cases h32 : i < 32
    · rw [if_pos h32, k32 i h32, if_neg h8]
      simp only [hi, show ¬ 64 ≤ i by omega, decide_true, decide_false, Bool.not_false, Bool.true_and]
    · rw [if_neg h32]
      simp only [hi, show ¬ 64 ≤ i by omega, decide_true, decide_false, Bool.not_false, Bool.true_and]
theorem nar16 (v : Int64) : (v <<< ((48 : Int32).toInt64 &&& 63)) >>> ((48 : Int32).toInt64 &&& 63) = v.toInt32.toInt16.toInt32.toInt64 := by
  rw [show ((48 : Int32).toInt64 &&& 63) = 48 from by decide]
  apply Int64.toBitVec_inj.mp
  have h56 : (((48 : Int64).toBitVec.smod 64).toNat) = 48 := by decide
  have hsl : (v <<< (48 : Int64)).toBitVec = v.toBitVec <<< 48 := by
    rw [Int64.toBitVec_shiftLeft]
    show v.toBitVec <<< (((48 : Int64).toBitVec.smod 64).toNat) = _
    rw [h56]
  rw [Int32.toBitVec_toInt64, Int16.toBitVec_toInt32, Int32.toBitVec_toInt16, Int64.toBitVec_toInt32]
  apply BitVec.eq_of_getLsbD_eq
  intro i hi
  show ((v <<< (48 : Int64)).toBitVec.sshiftRight (((48 : Int64).toBitVec.smod 64).toNat)).getLsbD i = _
  rw [h56, hsl]
  have k8 : ∀ j, j < 16 → (((v.toBitVec.signExtend 32).signExtend 16).getLsbD j) = v.toBitVec.getLsbD j := by
    intro j hj
    rw [BitVec.getLsbD_signExtend, BitVec.getLsbD_signExtend]
    simp only [show j < 16 by omega, show j < 32 by omega, show j < 64 by omega, decide_true, Bool.true_and, if_true]
  have m8 : ((v.toBitVec.signExtend 32).signExtend 16).msb = v.toBitVec.getLsbD 15 := by
    rw [BitVec.msb_eq_getLsbD_last]
    exact k8 15 (by decide)
  generalize (v.toBitVec.signExtend 32).signExtend 16 = X at k8 m8 ⊢
  have k32 : ∀ j, j < 32 → ((X.signExtend 32).getLsbD j) = v.toBitVec.getLsbD (if j < 16 then j else 15) := by
    intro j hj
    rw [BitVec.getLsbD_signExtend]
    by_cases h : j < 16
    · simp only [hj, h, decide_true, Bool.true_and, if_true, k8 j h]
    · simp only [hj, h, decide_true, Bool.true_and, if_false, m8]
  have m32 : (X.signExtend 32).msb = v.toBitVec.getLsbD 15 := by
    rw [BitVec.msb_eq_getLsbD_last]
    exact k32 31 (by decide)
  rw [BitVec.getLsbD_signExtend, m32, BitVec.getLsbD_sshiftRight, BitVec.msb_eq_getLsbD_last, BitVec.getLsbD_shiftLeft, BitVec.getLsbD_shiftLeft]
  have hL : (decide (64 - 1 < 64) && !decide (64 - 1 < 48) && v.toBitVec.getLsbD (64 - 1 - 48)) = v.toBitVec.getLsbD 15 := rfl
  rw [hL]
  by_cases h8 : i < 16
  · have h32 : i < 32 := by omega
    rw [if_pos h32, k32 i h32, if_pos h8, if_pos (show 48 + i < 64 by omega)]
    simp only [hi, show ¬ 64 ≤ i by omega, show 48 + i < 64 by omega, show ¬ 48 + i < 48 by omega, show 48 + i - 48 = i by omega, decide_true, decide_false, Bool.not_false, Bool.true_and]
  · rw [if_neg (show ¬ 48 + i < 64 by omega)]
    by_cases h32 : i < 32
    · rw [if_pos h32, k32 i h32, if_neg h8]
      simp only [hi, show ¬ 64 ≤ i by omega, decide_true, decide_false, Bool.not_false, Bool.true_and]
    · rw [if_neg h32]
      simp only [hi, show ¬ 64 ≤ i by omega, decide_true, decide_false, Bool.not_false, Bool.true_and]
