/-! whether all of a set wait, by bits -/
theorem andnot {z W : Int} (hz : 0 ≤ z ∧ z < 2147483648) (hW : 0 ≤ W ∧ W < 2147483648) : iAnd z (iXor W (-1)) = ((z.toNat &&& (W.toNat ^^^ (2 ^ 32 - 1)) : Nat) : Int) := by
  unfold iAnd iXor
  rw [Int32.ofInt_toInt]
  apply i32_of_nat
  · rw [Int32.toBitVec_and, BitVec.toNat_and, Int32.toBitVec_xor, BitVec.toNat_xor, toB (by omega), toB (by omega)]
    rfl
  · exact Nat.lt_of_le_of_lt Nat.and_le_left (by omega)
theorem bitN {z : Int} (hz : 0 ≤ z ∧ z < 2147483648) {i : Nat} (hi : i < 32) : iAnd (iShr z i) 1 = 1 ↔ z.toNat.testBit i = true := by
  rw [bit_at (by unfold R32; omega) hi, Nat.testBit_eq_decide_div_mod_eq, decide_eq_true_eq]
  obtain ⟨n, rfl⟩ := Int.eq_ofNat_of_zero_le hz.1
  have : ((n : Int) / 2 ^ i % 2) = ((n / 2 ^ i % 2 : Nat) : Int) := by simp
  rw [this]
  simp only [Int.toNat_natCast]
  omega
theorem andnot0 {z W : Int} (hz : 0 ≤ z ∧ z < 2147483648) (hW : 0 ≤ W ∧ W < 2147483648) : iAnd z (iXor W (-1)) = 0 ↔ ∀ i, i < 31 → z.toNat.testBit i = true → W.toNat.testBit i = true := by
  rw [andnot hz hW]
  constructor
  · intro h i hi hb
    have h0 : z.toNat &&& (W.toNat ^^^ (2 ^ 32 - 1)) = 0 := by omega
    have h1 := congrArg (fun x => Nat.testBit x i) h0
    simp only [Nat.testBit_and, Nat.testBit_xor, Nat.testBit_two_pow_sub_one, hb, Nat.zero_testBit] at h1
    have : decide (i < 32) = true := by simp; omega
    rw [this] at h1
    cases hw : W.toNat.testBit i
    · rw [hw] at h1; cases h1
    · rfl
  · intro h
    have h0 : z.toNat &&& (W.toNat ^^^ (2 ^ 32 - 1)) = 0 := by
      apply Nat.eq_of_testBit_eq
      intro i
      simp only [Nat.testBit_and, Nat.testBit_xor, Nat.testBit_two_pow_sub_one, Nat.zero_testBit]
      cases hb : z.toNat.testBit i with
      | false => rfl
      | true =>
        have hi : i < 31 := by
          apply Classical.byContradiction
          intro c
          have : z.toNat < 2 ^ i := Nat.lt_of_lt_of_le (show z.toNat < 2 ^ 31 by omega) (Nat.pow_le_pow_right (by decide) (by omega))
          rw [Nat.testBit_lt_two_pow this] at hb
          cases hb
        rw [h i hi hb]
        have : decide (i < 32) = true := by simp; omega
        rw [this]
        rfl
    omega
