theorem b255 {i : Nat} (hi : i < 32) (h8 : ¬ i < 8) : (255#32 : BitVec 32).getLsbD i = false := by
  have : ∀ j : Fin 32, ¬ j.val < 8 → (255#32 : BitVec 32).getLsbD j.val = false := by decide
  exact this ⟨i, hi⟩ h8
theorem by_b0 (x : Int32) : ((x.toUInt32 >>> ((0 : Int32).toUInt32 &&& Int32.toUInt32 31)).toInt32).toInt8.toInt32 &&& 255 = (x >>> ((0 : Int32) &&& 31)) &&& 255 := by
  apply Int32.toBitVec_inj.mp
  apply BitVec.eq_of_getLsbD_eq
  intro i hi
  by_cases h8 : i < 8
  · have e1 : (Int32.toUInt32 0 &&& Int32.toUInt32 31).toBitVec = 0#32 := by decide
    have e2 : ((0 : Int32) &&& 31).toBitVec = 0#32 := by decide
    have e3 : (0#32 : BitVec 32).smod 32 = 0#32 := by decide
    have e4 : (0#32 : BitVec 32) % 32#32 = 0#32 := by decide
    have h9 : 0 + i < 32 := by omega
    simp [BitVec.getLsbD_signExtend, BitVec.getLsbD_sshiftRight, h8, show i < 32 from hi, e1, e2, e3, e4, h9, Nat.not_le.mpr hi, -BitVec.getLsbD_eq_getElem]
  · simp [b255 hi h8]
theorem by_b8 (x : Int32) : ((x.toUInt32 >>> ((8 : Int32).toUInt32 &&& Int32.toUInt32 31)).toInt32).toInt8.toInt32 &&& 255 = (x >>> ((8 : Int32) &&& 31)) &&& 255 := by
  apply Int32.toBitVec_inj.mp
  apply BitVec.eq_of_getLsbD_eq
  intro i hi
  by_cases h8 : i < 8
  · have e1 : (Int32.toUInt32 8 &&& Int32.toUInt32 31).toBitVec = 8#32 := by decide
    have e2 : ((8 : Int32) &&& 31).toBitVec = 8#32 := by decide
    have e3 : (8#32 : BitVec 32).smod 32 = 8#32 := by decide
    have e4 : (8#32 : BitVec 32) % 32#32 = 8#32 := by decide
    have h9 : 8 + i < 32 := by omega
    simp [BitVec.getLsbD_signExtend, BitVec.getLsbD_sshiftRight, h8, show i < 32 from hi, e1, e2, e3, e4, h9, Nat.not_le.mpr hi, -BitVec.getLsbD_eq_getElem]
  · simp [b255 hi h8]
theorem by_b16 (x : Int32) : ((x.toUInt32 >>> ((16 : Int32).toUInt32 &&& Int32.toUInt32 31)).toInt32).toInt8.toInt32 &&& 255 = (x >>> ((16 : Int32) &&& 31)) &&& 255 := by
  apply Int32.toBitVec_inj.mp
  apply BitVec.eq_of_getLsbD_eq
  intro i hi
  by_cases h8 : i < 8
  · have e1 : (Int32.toUInt32 16 &&& Int32.toUInt32 31).toBitVec = 16#32 := by decide
    have e2 : ((16 : Int32) &&& 31).toBitVec = 16#32 := by decide
    have e3 : (16#32 : BitVec 32).smod 32 = 16#32 := by decide
    have e4 : (16#32 : BitVec 32) % 32#32 = 16#32 := by decide
    have h9 : 16 + i < 32 := by omega
    simp [BitVec.getLsbD_signExtend, BitVec.getLsbD_sshiftRight, h8, show i < 32 from hi, e1, e2, e3, e4, h9, Nat.not_le.mpr hi, -BitVec.getLsbD_eq_getElem]
  · simp [b255 hi h8]
theorem by_b24 (x : Int32) : ((x.toUInt32 >>> ((24 : Int32).toUInt32 &&& Int32.toUInt32 31)).toInt32).toInt8.toInt32 &&& 255 = (x >>> ((24 : Int32) &&& 31)) &&& 255 := by
  apply Int32.toBitVec_inj.mp
  apply BitVec.eq_of_getLsbD_eq
  intro i hi
  by_cases h8 : i < 8
  · have e1 : (Int32.toUInt32 24 &&& Int32.toUInt32 31).toBitVec = 24#32 := by decide
    have e2 : ((24 : Int32) &&& 31).toBitVec = 24#32 := by decide
    have e3 : (24#32 : BitVec 32).smod 32 = 24#32 := by decide
    have e4 : (24#32 : BitVec 32) % 32#32 = 24#32 := by decide
    have h9 : 24 + i < 32 := by omega
    simp [BitVec.getLsbD_signExtend, BitVec.getLsbD_sshiftRight, h8, show i < 32 from hi, e1, e2, e3, e4, h9, Nat.not_le.mpr hi, -BitVec.getLsbD_eq_getElem]
  · simp [b255 hi h8]
