/-! bits of whole numbers -/
theorem s31 : ∀ n, n < 32 → (((Int32.ofInt (n : Nat)) &&& 31).toBitVec.smod 32).toNat = n := by decide +kernel
theorem shr_div {s : Int} {n : Nat} (hs : R32 s) (hn : n < 32) : iShr s n = s / 2 ^ n := by
  unfold iShr
  rw [pk_shr _ _ n (s31 n hn), t32 hs, Int.shiftRight_eq_div_pow]
  rfl
theorem and1 {s : Int} (hs : R32 s) : iAnd s 1 = s % 2 := by
  unfold iAnd
  have h := pk_and (Int32.ofInt s) (m := Int32.ofInt 1) 1 (by decide)
  have hb := (Int32.ofInt s).toBitVec.isLt
  rw [h, nI_toInt (by omega)]
  have e : ((Int32.ofInt s).toBitVec.toNat : Int) = s % 4294967296 := by
    rw [Int32.toBitVec_ofInt, BitVec.toNat_ofInt]
    omega
  omega
theorem div_R {s : Int} {n : Nat} (hs : R32 s) : R32 (s / 2 ^ n) := by
  have h1 : (0 : Int) < 2 ^ n := Int.pow_pos (by decide)
  have h2 : (1 : Int) ≤ 2 ^ n := h1
  unfold R32 at *
  rcases Int.lt_or_le s 0 with g | g
  · have a : s ≤ s / 2 ^ n := (Int.le_ediv_iff_mul_le h1).mpr (by
      have := Int.mul_le_mul_of_nonpos_left (a := s) (by omega) h2
      omega)
    have b := Int.ediv_neg_of_neg_of_pos g h1
    omega
  · have a := Int.ediv_nonneg g (Int.le_of_lt h1)
    have b := Int.ediv_le_self (2 ^ n) g
    omega
theorem bit_at {s : Int} {n : Nat} (hs : R32 s) (hn : n < 32) : iAnd (iShr s n) 1 = s / 2 ^ n % 2 := by
  rw [shr_div hs hn, and1 (div_R hs)]
theorem toB {x : Int} (h : 0 ≤ x ∧ x < 4294967296) : (Int32.ofInt x).toBitVec.toNat = x.toNat := by
  rw [Int32.toBitVec_ofInt, BitVec.toNat_ofInt]
  omega
theorem i32_of_nat {y : Int32} {n : Nat} (h : y.toBitVec.toNat = n) (hn : n < 2147483648) : y.toInt = n := by
  have := pk_tn (n := n) (by omega)
  have e : y = nI n := by
    apply Int32.toBitVec_inj.mp
    apply BitVec.eq_of_toNat_eq
    rw [h, this]
  rw [e, nI_toInt hn]
theorem and_nat {x y : Int} (hx : 0 ≤ x ∧ x < 2147483648) (hy : 0 ≤ y ∧ y < 2147483648) : iAnd x y = ((x.toNat &&& y.toNat : Nat) : Int) := by
  unfold iAnd
  apply i32_of_nat
  · rw [Int32.toBitVec_and, BitVec.toNat_and, toB (by omega), toB (by omega)]
  · exact Nat.lt_of_le_of_lt Nat.and_le_left (by omega)
theorem or_nat {x y : Int} (hx : 0 ≤ x ∧ x < 2147483648) (hy : 0 ≤ y ∧ y < 2147483648) : iOr x y = ((x.toNat ||| y.toNat : Nat) : Int) := by
  unfold iOr
  apply i32_of_nat
  · rw [Int32.toBitVec_or, BitVec.toNat_or, toB (by omega), toB (by omega)]
  · exact Nat.or_lt_two_pow (n := 31) (by omega) (by omega)
theorem shl1 : ∀ n : Nat, n < 31 → iShl 1 n = 2 ^ n := by decide +kernel
theorem pow_lt31 {n : Nat} (h : n < 31) : (0 : Int) < 2 ^ n ∧ (2 : Int) ^ n < 2147483648 := by
  have key : ∀ n : Nat, n < 31 → (0 : Int) < 2 ^ n ∧ (2 : Int) ^ n < 2147483648 := by decide +kernel
  exact key n h
theorem or_add {x : Int} {k : Nat} (hk : k < 31) (hx : 0 ≤ x ∧ x < 2 ^ k) : iOr x (2 ^ k) = x + 2 ^ k := by
  have hp := pow_lt31 hk
  rw [or_nat (by omega) (by omega)]
  have e1 : ((2 : Int) ^ k).toNat = 2 ^ k := by
    have : ((2 : Int) ^ k) = ((2 ^ k : Nat) : Int) := by rw [Int.natCast_pow]; rfl
    rw [this]; rfl
  have h2 : x.toNat < 2 ^ k := by
    have : (2 : Int) ^ k = ((2 ^ k : Nat) : Int) := by rw [Int.natCast_pow]; rfl
    omega
  rw [e1, Nat.or_comm, show 2 ^ k = 2 ^ k * 1 by omega, ← Nat.two_pow_add_eq_or_of_lt h2 1]
  have : (2 : Int) ^ k = ((2 ^ k : Nat) : Int) := by rw [Int.natCast_pow]; rfl
  omega
