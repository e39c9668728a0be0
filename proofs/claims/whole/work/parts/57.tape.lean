/-! ===== the tape ===== -/
/-- a byte as the class keeps it and as the reference does -/
def tb (c s : Int32) : Prop := s = c.toInt8.toInt32 ∧ 0 ≤ c.toInt ∧ c.toInt ≤ 255
theorem tb_and (y : Int32) : tb (y &&& 255) y.toInt8.toInt32 := by
  refine ⟨?_, ?_, ?_⟩
  · congr 1
    rw [Int32.toInt8_and]
    have : (255 : Int32).toInt8 = -1 := by decide
    rw [this]
    simp
  · have h : (y &&& 255).toBitVec.toNat ≤ 255 := by
      rw [Int32.toBitVec_and, BitVec.toNat_and]
      exact Nat.and_le_right
    have : (y &&& 255).toInt = ((y &&& 255).toBitVec.toNat : Int) := by
      rw [← Int32.toInt_toBitVec, BitVec.toInt_eq_toNat_of_lt (by omega)]
    omega
  · have h : (y &&& 255).toBitVec.toNat ≤ 255 := by
      rw [Int32.toBitVec_and, BitVec.toNat_and]
      exact Nat.and_le_right
    have : (y &&& 255).toInt = ((y &&& 255).toBitVec.toNat : Int) := by
      rw [← Int32.toInt_toBitVec, BitVec.toInt_eq_toNat_of_lt (by omega)]
    omega
