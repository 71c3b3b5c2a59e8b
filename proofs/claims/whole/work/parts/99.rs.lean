/-! bits of long numbers -/
theorem i64_of_nat {y : Int64} {n : Nat} (h : y.toBitVec.toNat = n) (hn : n < 9223372036854775808) : y.toInt = n := by
  show y.toBitVec.toInt = n
  rw [BitVec.toInt_eq_toNat_of_lt (by omega), h]
theorem toB64 {x : Int} (h : 0 ≤ x ∧ x < 18446744073709551616) : (Int64.ofInt x).toBitVec.toNat = x.toNat := by
  rw [Int64.toBitVec_ofInt, BitVec.toNat_ofInt]
  omega
theorem land_nat {x y : Int} (hx : 0 ≤ x ∧ x < 9223372036854775808) (hy : 0 ≤ y ∧ y < 9223372036854775808) : lAnd x y = ((x.toNat &&& y.toNat : Nat) : Int) := by
  unfold lAnd
  apply i64_of_nat
  · rw [Int64.toBitVec_and, BitVec.toNat_and, toB64 (by omega), toB64 (by omega)]
  · exact Nat.lt_of_le_of_lt Nat.and_le_left (by omega)
theorem lor_nat {x y : Int} (hx : 0 ≤ x ∧ x < 9223372036854775808) (hy : 0 ≤ y ∧ y < 9223372036854775808) : lOr x y = ((x.toNat ||| y.toNat : Nat) : Int) := by
  unfold lOr
  apply i64_of_nat
  · rw [Int64.toBitVec_or, BitVec.toNat_or, toB64 (by omega), toB64 (by omega)]
  · exact Nat.or_lt_two_pow (n := 63) (by omega) (by omega)
theorem landnot {z W : Int} (hz : 0 ≤ z ∧ z < 9223372036854775808) (hW : 0 ≤ W ∧ W < 9223372036854775808) : lAnd z (lXor W (-1)) = ((z.toNat &&& (W.toNat ^^^ (2 ^ 64 - 1)) : Nat) : Int) := by
  unfold lAnd lXor
  rw [Int64.ofInt_toInt]
  apply i64_of_nat
  · rw [Int64.toBitVec_and, BitVec.toNat_and, Int64.toBitVec_xor, BitVec.toNat_xor, toB64 (by omega), toB64 (by omega)]
    rfl
  · exact Nat.lt_of_le_of_lt Nat.and_le_left (by omega)
theorem s63 : ∀ n, n < 63 → (((Int32.ofInt (n : Nat)).toInt64 &&& 63).toBitVec.smod 64).toNat = n := by decide +kernel
theorem lshl1 : ∀ n : Nat, n < 63 → lShl 1 n = 2 ^ n := by decide +kernel
theorem lpow_lt : ∀ n : Nat, n < 63 → (1 : Int) ≤ 2 ^ n ∧ (2 : Int) ^ n < 9223372036854775808 ∧ ((2 : Int) ^ n).toNat = 2 ^ n := by decide +kernel
theorem lshr_div {s : Int} {n : Nat} (hs : 0 ≤ s ∧ s < 9223372036854775808) (hn : n < 63) : lShr s n = s / 2 ^ n := by
  unfold lShr
  show (Int64.ofInt s >>> ((Int32.ofInt (n : Nat)).toInt64 &&& 63)).toBitVec.toInt = _
  rw [Int64.toBitVec_shiftRight]
  unfold BitVec.sshiftRight'
  rw [s63 n hn, BitVec.toInt_sshiftRight, Int.shiftRight_eq_div_pow]
  have : (Int64.ofInt s).toBitVec.toInt = s := t64 (by unfold R64; omega)
  rw [this]
  rfl
/-- a row of bits -/
def BT (X : Int) (p : Nat → Bool) : Prop := (0 ≤ X ∧ X < 9223372036854775808) ∧ ∀ i, i < 61 → X.toNat.testBit i = p i
theorem BT_at {X : Int} {p : Nat → Bool} (h : BT X p) {o : Nat} (ho : o < 61) : lAnd (lShr X o) 1 = if p o = true then 1 else 0 := by
  have hp := lpow_lt o (by omega)
  have hx := h.1
  have hd : 0 ≤ X / 2 ^ o := Int.ediv_nonneg h.1.1 (by omega)
  have hle : X / 2 ^ o ≤ X := Int.ediv_le_self _ h.1.1
  rw [lshr_div h.1 (by omega), land_nat (by omega) (by omega)]
  have h1 := h.2 o ho
  rw [Nat.testBit_eq_decide_div_mod_eq] at h1
  have e : (X / 2 ^ o).toNat = X.toNat / 2 ^ o := by
    obtain ⟨n, rfl⟩ := Int.eq_ofNat_of_zero_le h.1.1
    have : ((n : Int) / 2 ^ o) = ((n / 2 ^ o : Nat) : Int) := by simp
    rw [this]
    simp only [Int.toNat_natCast]
  rw [e, show (1 : Int).toNat = 1 from rfl, Nat.and_one_is_mod]
  by_cases c : p o = true
  · rw [if_pos c]
    rw [c, decide_eq_true_eq] at h1
    omega
  · rw [if_neg c]
    have : p o = false := by cases hpo : p o; rfl; exact absurd hpo c
    rw [this, decide_eq_false_iff_not] at h1
    omega
theorem BT_c {X : Int} {p q : Nat → Bool} (h : BT X p) (e : ∀ i, i < 61 → p i = q i) : BT X q := ⟨h.1, fun i hi => by rw [h.2 i hi, e i hi]⟩
theorem BT_and {X Y : Int} {p q : Nat → Bool} (h : BT X p) (g : BT Y q) : BT (lAnd X Y) (fun i => p i && q i) := by
  rw [land_nat h.1 g.1]
  refine ⟨⟨by omega, ?_⟩, fun i hi => ?_⟩
  · have : X.toNat &&& Y.toNat ≤ X.toNat := Nat.and_le_left
    have := h.1
    omega
  · rw [Int.toNat_natCast, Nat.testBit_and, h.2 i hi, g.2 i hi]
theorem BT_set {X : Int} {p : Nat → Bool} (h : BT X p) {o : Nat} (ho : o < 61) : BT (lOr X (lShl 1 o)) (fun i => p i || decide (i = o)) := by
  have hp := lpow_lt o (by omega)
  rw [lshl1 o (by omega), lor_nat h.1 (by omega), hp.2.2]
  refine ⟨⟨by omega, ?_⟩, fun i hi => ?_⟩
  · have := Nat.or_lt_two_pow (n := 63) (x := X.toNat) (y := 2 ^ o) (by have := h.1; omega) (Nat.pow_lt_pow_right (by decide) (by omega))
    omega
  · rw [Int.toNat_natCast, Nat.testBit_or, h.2 i hi, Nat.testBit_two_pow]
    congr 1
    by_cases c : o = i
    · simp [c]
    · have : ¬ i = o := fun e => c e.symm
      simp [c, this]
theorem BT_clr {X : Int} {p : Nat → Bool} (h : BT X p) {o : Nat} (ho : o < 61) : BT (lAnd X (lXor (lShl 1 o) (-1))) (fun i => p i && !decide (i = o)) := by
  have hp := lpow_lt o (by omega)
  rw [lshl1 o (by omega), landnot h.1 (by omega), hp.2.2]
  refine ⟨⟨by omega, ?_⟩, fun i hi => ?_⟩
  · have : X.toNat &&& (2 ^ o ^^^ (2 ^ 64 - 1)) ≤ X.toNat := Nat.and_le_left
    have := h.1
    omega
  · rw [Int.toNat_natCast, Nat.testBit_and, h.2 i hi, Nat.testBit_xor, Nat.testBit_two_pow, Nat.testBit_two_pow_sub_one]
    congr 1
    have : decide (i < 64) = true := by simp; omega
    rw [this]
    by_cases c : o = i
    · simp [c]
    · have : ¬ i = o := fun e => c e.symm
      simp [c, this]
theorem BT_0 : BT 0 (fun _ => false) := ⟨by decide, fun i _ => Nat.zero_testBit i⟩
theorem BT_k : BT 4611686018427387904 (fun _ => false) := ⟨by decide, fun i hi => by
  have : (4611686018427387904 : Int).toNat = 2 ^ 62 := by decide
  rw [this, Nat.testBit_two_pow]
  simp
  omega⟩
