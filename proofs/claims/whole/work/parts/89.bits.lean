/-! BITS -/
theorem zn_and (a b : Nat) : zn a &&& zn b = zn (a &&& b) := by
  apply Int32.toBitVec_inj.1
  simp [zn]
theorem zn_or (a b : Nat) : zn a ||| zn b = zn (a ||| b) := by
  apply Int32.toBitVec_inj.1
  simp [zn]
theorem zn_sm (i : Nat) (hi : i < 32) : (zn i &&& zn 31).toBitVec.smod 32 = BitVec.ofNat 32 i := by
  have : ∀ i : Fin 32, (zn i.1 &&& zn 31).toBitVec.smod 32 = BitVec.ofNat 32 i.1 := by decide +kernel
  exact this ⟨i, hi⟩
theorem zn_shl (a i : Nat) (hi : i < 32) : zn a <<< (zn i &&& zn 31) = zn (a <<< i) := by
  apply Int32.toBitVec_inj.1
  rw [Int32.toBitVec_shiftLeft]
  rw [zn_sm i hi]
  apply BitVec.eq_of_toNat_eq
  simp [zn, BitVec.shiftLeft_eq', Nat.mod_eq_of_lt (show i < 2^32 by omega)]
  rw [Nat.shiftLeft_eq, Nat.shiftLeft_eq, Nat.mod_mul_mod]
theorem zn_shr (a i : Nat) (ha : a < 2147483648) (hi : i < 32) : zn a >>> (zn i &&& zn 31) = zn (a >>> i) := by
  apply Int32.toBitVec_inj.1
  rw [Int32.toBitVec_shiftRight]
  rw [zn_sm i hi]
  rw [BitVec.sshiftRight_eq']
  rw [BitVec.sshiftRight_eq_of_msb_false]
  · apply BitVec.eq_of_toNat_eq
    simp [zn, Nat.mod_eq_of_lt (show i < 2^32 by omega)]
    rw [Nat.mod_eq_of_lt (show a < 4294967296 by omega), Nat.mod_eq_of_lt]
    have := Nat.shiftRight_le a i
    omega
  · rw [BitVec.msb_eq_decide]
    simp [zn]
    omega
theorem zn_bit (a i : Nat) : zn ((a >>> i) &&& 1) = if a.testBit i = true then zn 1 else zn 0 := by
  unfold Nat.testBit
  rw [Nat.and_comm 1]
  have h : (a >>> i) &&& 1 = 0 ∨ (a >>> i) &&& 1 = 1 := by
    rw [Nat.and_one_is_mod]; omega
  rcases h with h | h <;> simp [h]
theorem zn_bit2 (a b : Nat) (i j : Nat) : (a >>> i) &&& (b >>> j) &&& 1 = if (a.testBit i && b.testBit j) = true then 1 else 0 := by
  unfold Nat.testBit
  rw [Nat.and_comm 1, Nat.and_comm 1]
  have h : (a >>> i) &&& 1 = 0 ∨ (a >>> i) &&& 1 = 1 := by rw [Nat.and_one_is_mod]; omega
  have h' : (b >>> j) &&& 1 = 0 ∨ (b >>> j) &&& 1 = 1 := by rw [Nat.and_one_is_mod]; omega
  have e : (a >>> i) &&& (b >>> j) &&& 1 = ((a >>> i) &&& 1) &&& ((b >>> j) &&& 1) := by
    apply Nat.eq_of_testBit_eq
    intro k
    simp only [Nat.testBit_and]
    cases (a >>> i).testBit k <;> cases (b >>> j).testBit k <;> cases Nat.testBit 1 k <;> rfl
  rw [e]
  rcases h with h | h <;> rcases h' with h' | h' <;> simp [h, h']
theorem zn_bt (a i : Nat) : zn (a >>> i) &&& zn 1 = zo (a.testBit i) := by
  rw [zn_and, zn_bit]; rfl
theorem zn_bt2 (a b i j : Nat) : zn (a >>> i) &&& zn (b >>> j) &&& zn 1 = zo (a.testBit i && b.testBit j) := by
  rw [zn_and, zn_and, zn_bit2]
  by_cases h : (a.testBit i && b.testBit j) = true
  · rw [if_pos h, h]; rfl
  · rw [if_neg h, Bool.eq_false_iff.mpr h]; rfl
theorem zn_bt0 (a : Nat) : zn a &&& zn 1 = zo (a.testBit 0) := by
  have := zn_bt a 0
  rw [Nat.shiftRight_zero] at this
  exact this
theorem zo_e1 (b : Bool) : (zo b = zn 1) = (b = true) := by cases b <;> simp [zo] <;> decide
