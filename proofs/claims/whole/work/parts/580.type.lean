/-! ===== type: the signs of a long ===== -/
theorem sg_bv (b : BitVec 64) (k : Nat) (hk : k ≤ 56) : (b >>> k) &&& 255#64 = (b.sshiftRight k) &&& 255#64 := by
  apply BitVec.eq_of_getLsbD_eq
  intro j hj
  rw [BitVec.getLsbD_and, BitVec.getLsbD_and, BitVec.getLsbD_ushiftRight, BitVec.getLsbD_sshiftRight]
  by_cases h : j < 8
  · rw [if_pos (show k + j < 64 by omega)]
    simp [show ¬ 64 ≤ j by omega]
  · have e : (255#64).getLsbD j = false := by
      rw [BitVec.getLsbD_ofNat, Nat.testBit_lt_two_pow (Nat.lt_of_lt_of_le (by decide : 255 < 2 ^ 8) (Nat.pow_le_pow_right (by decide) (by omega))), Bool.and_false]
    rw [e, Bool.and_false, Bool.and_false]
theorem sg_eq (x : Int64) : ∀ i : Nat, i < 8 → (us64 x (iI ((8 * i : Nat) : Int)) &&& 255) = (ss64 x (iI ((8 * i : Nat) : Int)) &&& 255) := by
  intro i hi
  apply Int64.toBitVec_inj.mp
  have h := sg_bv x.toBitVec (8 * i) (by omega)
  rw [Int64.toBitVec_and, Int64.toBitVec_and]
  have e1 : (us64 x (iI ((8 * i : Nat) : Int))).toBitVec = x.toBitVec >>> (8 * i) := by
    unfold us64
    have hi' : i = 0 ∨ i = 1 ∨ i = 2 ∨ i = 3 ∨ i = 4 ∨ i = 5 ∨ i = 6 ∨ i = 7 := by omega
    rcases hi' with rfl | rfl | rfl | rfl | rfl | rfl | rfl | rfl <;> rfl
  have e2 : (ss64 x (iI ((8 * i : Nat) : Int))).toBitVec = x.toBitVec.sshiftRight (8 * i) := by
    unfold ss64
    rw [Int64.toBitVec_shiftRight]
    have hi' : i = 0 ∨ i = 1 ∨ i = 2 ∨ i = 3 ∨ i = 4 ∨ i = 5 ∨ i = 6 ∨ i = 7 := by omega
    rcases hi' with rfl | rfl | rfl | rfl | rfl | rfl | rfl | rfl <;> rfl
  rw [e1, e2]
  exact h
theorem sg_rg (u : Int64) : 0 ≤ (u &&& 255).toInt ∧ (u &&& 255).toInt ≤ 255 := by
  have h : (u &&& 255).toBitVec.toNat ≤ 255 := by
    rw [Int64.toBitVec_and, BitVec.toNat_and]
    exact Nat.and_le_right
  have e : (u &&& 255).toInt = ((u &&& 255).toBitVec.toNat : Int) := by
    show (u &&& 255).toBitVec.toInt = _
    rw [BitVec.toInt_eq_toNat_of_lt (by omega)]
  rw [e]
  omega
theorem l_i32 {u : Int64} (h : Rg u.toInt) : u.toInt32 = iI u.toInt := by
  apply Int32.toInt_inj.mp
  rw [iI_toInt h, Int64.toInt_toInt32, Int.bmod_eq_of_le (by omega) (by omega)]
