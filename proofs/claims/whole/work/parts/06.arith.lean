/-! numbers of the small machine and of the Java machine -/
def R32 (z : Int) : Prop := -2147483648 ≤ z ∧ z < 2147483648
def R64 (z : Int) : Prop := -9223372036854775808 ≤ z ∧ z < 9223372036854775808
theorem w32_R (z : Int) : R32 (w32 z) := by
  have h1 := Int.le_bmod (x := z) (m := 4294967296) (by decide)
  have h2 := Int.bmod_lt (x := z) (m := 4294967296) (by decide)
  unfold R32 w32
  omega
theorem w64_R (z : Int) : R64 (w64 z) := by
  have h1 := Int.le_bmod (x := z) (m := 18446744073709551616) (by decide)
  have h2 := Int.bmod_lt (x := z) (m := 18446744073709551616) (by decide)
  unfold R64 w64
  omega
theorem t32 {z : Int} (h : R32 z) : (Int32.ofInt z).toInt = z := by
  rw [Int32.toInt_ofInt]
  show z.bmod 4294967296 = z
  exact Int.bmod_eq_of_le (by unfold R32 at h; omega) (by unfold R32 at h; omega)
theorem t64 {z : Int} (h : R64 z) : (Int64.ofInt z).toInt = z := by
  rw [Int64.toInt_ofInt]
  show z.bmod 18446744073709551616 = z
  exact Int.bmod_eq_of_le (by unfold R64 at h; omega) (by unfold R64 at h; omega)
theorem i32_R (x : Int32) : R32 x.toInt := ⟨by have := Int32.le_toInt x; omega, by have := Int32.toInt_lt x; omega⟩
theorem i64_R (x : Int64) : R64 x.toInt := ⟨by have := Int64.le_toInt x; omega, by have := Int64.toInt_lt x; omega⟩
theorem o_w32 (z : Int) : Int32.ofInt (w32 z) = Int32.ofInt z := by
  apply Int32.toInt_inj.mp
  rw [t32 (w32_R z), Int32.toInt_ofInt]
  rfl
theorem o_w64 (z : Int) : Int64.ofInt (w64 z) = Int64.ofInt z := by
  apply Int64.toInt_inj.mp
  rw [t64 (w64_R z), Int64.toInt_ofInt]
  rfl
theorem o_ti (x : Int32) : Int32.ofInt x.toInt = x := Int32.ofInt_toInt x
theorem o_tl (x : Int64) : Int64.ofInt x.toInt = x := Int64.ofInt_toInt x
theorem o_add (x y : Int) : Int32.ofInt x + Int32.ofInt y = Int32.ofInt (w32 (x + y)) := by rw [o_w32, Int32.ofInt_add]
theorem o_sub (x y : Int) : Int32.ofInt x - Int32.ofInt y = Int32.ofInt (w32 (x - y)) := by rw [o_w32, Int32.ofInt_sub]
theorem o_mul (x y : Int) : Int32.ofInt x * Int32.ofInt y = Int32.ofInt (w32 (x * y)) := by rw [o_w32, Int32.ofInt_mul]
theorem o_neg (x : Int) : -Int32.ofInt x = Int32.ofInt (w32 (-x)) := by rw [o_w32, Int32.ofInt_neg]
theorem p_add (x y : Int) : Int64.ofInt x + Int64.ofInt y = Int64.ofInt (w64 (x + y)) := by rw [o_w64, Int64.ofInt_add]
theorem p_sub (x y : Int) : Int64.ofInt x - Int64.ofInt y = Int64.ofInt (w64 (x - y)) := by rw [o_w64, Int64.ofInt_sub]
theorem p_mul (x y : Int) : Int64.ofInt x * Int64.ofInt y = Int64.ofInt (w64 (x * y)) := by rw [o_w64, Int64.ofInt_mul]
theorem p_neg (x : Int) : -Int64.ofInt x = Int64.ofInt (w64 (-x)) := by rw [o_w64, Int64.ofInt_neg]
theorem o_lt {x y : Int} (hx : R32 x) (hy : R32 y) : Int32.ofInt x < Int32.ofInt y ↔ x < y := by rw [Int32.lt_iff_toInt_lt, t32 hx, t32 hy]
theorem o_le {x y : Int} (hx : R32 x) (hy : R32 y) : Int32.ofInt x ≤ Int32.ofInt y ↔ x ≤ y := by rw [Int32.le_iff_toInt_le, t32 hx, t32 hy]
theorem o_eq {x y : Int} (hx : R32 x) (hy : R32 y) : Int32.ofInt x = Int32.ofInt y ↔ x = y := by rw [← Int32.toInt_inj, t32 hx, t32 hy]
theorem p_lt {x y : Int} (hx : R64 x) (hy : R64 y) : Int64.ofInt x < Int64.ofInt y ↔ x < y := by rw [Int64.lt_iff_toInt_lt, t64 hx, t64 hy]
theorem p_eq {x y : Int} (hx : R64 x) (hy : R64 y) : Int64.ofInt x = Int64.ofInt y ↔ x = y := by rw [← Int64.toInt_inj, t64 hx, t64 hy]
theorem o_0 : (0 : Int32) = Int32.ofInt 0 := rfl
theorem R32_0 : R32 0 := by unfold R32; omega
theorem o_div {x y : Int} (hx : R32 x) (hy : R32 y) : Int32.ofInt x / Int32.ofInt y = Int32.ofInt (w32 (Int.tdiv x y)) := by
  apply Int32.toInt_inj.mp
  rw [Int32.toInt_div, t32 hx, t32 hy, o_w32, Int32.toInt_ofInt]
theorem p_div {x y : Int} (hx : R64 x) (hy : R64 y) : Int64.ofInt x / Int64.ofInt y = Int64.ofInt (w64 (Int.tdiv x y)) := by
  apply Int64.toInt_inj.mp
  rw [Int64.toInt_div, t64 hx, t64 hy, o_w64, Int64.toInt_ofInt]
theorem tmod_as (x y : Int) : Int.tmod x y = x - y * Int.tdiv x y := by have := Int.mul_tdiv_add_tmod x y; omega
theorem tmod_le {x : Int} (h : 0 ≤ x) (y : Int) : Int.tmod x y ≤ x := by
  obtain ⟨m, rfl⟩ := Int.eq_ofNat_of_zero_le h
  have key : ∀ n : Nat, Int.tmod (m : Int) (n : Int) ≤ (m : Int) := fun n => by
    have e : Int.tmod (m : Int) (n : Int) = ((m % n : Nat) : Int) := rfl
    have := Nat.mod_le m n
    omega
  rcases Int.le_total 0 y with g | g
  · obtain ⟨n, rfl⟩ := Int.eq_ofNat_of_zero_le g
    exact key n
  · obtain ⟨n, hn⟩ := Int.eq_ofNat_of_zero_le (show 0 ≤ -y by omega)
    have : y = -(n : Int) := by omega
    rw [this, Int.tmod_neg]
    exact key n
theorem tmod_R {x y lo hi : Int} (h0 : lo ≤ 0) (h1 : 0 ≤ hi) (hl : lo ≤ x) (hh : x ≤ hi) : lo ≤ Int.tmod x y ∧ Int.tmod x y ≤ hi := by
  rcases Int.le_total 0 x with g | g
  · have a := Int.tmod_nonneg y g
    have b : Int.tmod x y ≤ x := tmod_le g y
    omega
  · have a := Int.tmod_nonneg y (show 0 ≤ -x by omega)
    have b : Int.tmod (-x) y ≤ -x := tmod_le (by omega) y
    rw [Int.neg_tmod] at a b
    omega
theorem o_rem {x y : Int} (hx : R32 x) (hy : R32 y) : Int32.ofInt x - Int32.ofInt x / Int32.ofInt y * Int32.ofInt y = Int32.ofInt (Int.tmod x y) := by
  rw [o_div hx hy, o_w32, ← Int32.ofInt_mul, ← Int32.ofInt_sub, tmod_as, Int.mul_comm]
theorem p_rem {x y : Int} (hx : R64 x) (hy : R64 y) : Int64.ofInt x - Int64.ofInt x / Int64.ofInt y * Int64.ofInt y = Int64.ofInt (Int.tmod x y) := by
  rw [p_div hx hy, o_w64, ← Int64.ofInt_mul, ← Int64.ofInt_sub, tmod_as, Int.mul_comm]
theorem o_clamp {z : Int} (h : R32 z) (h0 : 0 ≤ z) : (Int32.ofInt z).toNatClampNeg = z.toNat := by
  show (Int32.ofInt z).toInt.toNat = z.toNat
  rw [t32 h]
theorem o_in {z : Int} {n : Nat} (h : R32 z) (h0 : 0 ≤ z) (h1 : z < (n : Int)) : vp_in (Int32.ofInt z) n := by
  rw [vp_in_iff, t32 h]
  exact ⟨h0, h1⟩
theorem o_wide {z : Int} (h : R32 z) : (Int32.ofInt z).toInt64 = Int64.ofInt z := by
  apply Int64.toInt_inj.mp
  rw [Int32.toInt_toInt64, t32 h, t64]
  unfold R32 at h; unfold R64; omega
theorem o_narrow (z : Int) : (Int64.ofInt z).toInt32 = Int32.ofInt (w32 z) := by
  rw [o_w32]
  apply Int32.toInt_inj.mp
  rw [Int64.toInt_toInt32, Int64.toInt_ofInt, Int32.toInt_ofInt]
  exact Int.bmod_bmod_of_dvd (by decide)
theorem o_byte (z : Int) : (Int32.ofInt z).toInt8.toInt32 = Int32.ofInt (i2b z) := by
  apply Int32.toInt_inj.mp
  have hR : R32 (i2b z) := by
    unfold i2b R32
    have h1 := Int8.le_toInt (Int8.ofInt z)
    have h2 := Int8.toInt_lt (Int8.ofInt z)
    omega
  rw [t32 hR, Int8.toInt_toInt32, Int32.toInt_toInt8, Int32.toInt_ofInt]
  unfold i2b
  rw [Int8.toInt_ofInt]
  exact Int.bmod_bmod_of_dvd (by decide)
theorem i2b_R (z : Int) : -128 ≤ i2b z ∧ i2b z < 128 := by
  unfold i2b
  have h1 := Int8.le_toInt (Int8.ofInt z)
  have h2 := Int8.toInt_lt (Int8.ofInt z)
  omega
theorem o_char (z : Int) : ((Int32.ofInt z).toUInt32 % 65536).toInt32 = Int32.ofInt (i2c z) := by
  rw [pk_char]
  have e : ((Int32.ofInt z).toBitVec.toNat : Int) = z % 4294967296 := by
    rw [Int32.toBitVec_ofInt, BitVec.toNat_ofInt]
    omega
  apply Int32.toInt_inj.mp
  rw [nI_toInt (by omega), t32 (by unfold R32 i2c; omega)]
  unfold i2c
  omega
