/-! whether all of a set wait, by bits -/
theorem andnot {z W : Int} (hz : 0 ≤ z ∧ z < 2147483648) (hW : 0 ≤ W ∧ W < 2147483648) : iAnd z (iXor W (-1)) = ((z.toNat &&& (W.toNat ^^^ (2 ^ 32 - 1)) : Nat) : Int) := by
  unfold iAnd iXor
  rw [Int32.ofInt_toInt]
  apply i32_of_nat
  · rw [Int32.toBitVec_and, BitVec.toNat_and, Int32.toBitVec_xor, BitVec.toNat_xor, toB (by omega), toB (by omega)]
    rfl
  · exact Nat.lt_of_le_of_lt Nat.and_le_left (by omega)
theorem bitN {z : Int} (hz : 0 ≤ z ∧ z < 2147483648) {i : Nat} (hi : i < 32) : iAnd (iShr z i) 1 = 1 ↔ z.toNat.testBit i = true := by
  rw [bit_at (by unfold R32; omega) hi, Nat.testBit_eq_decide_div_mod_eq, decide_eq_true_eq]
  obtain ⟨n, rfl⟩ := Int.eq_ofNat_of_zero_le hz.1
  have : ((n : Int) / 2 ^ i % 2) = ((n / 2 ^ i % 2 : Nat) : Int) := by simp
  rw [this]
  simp only [Int.toNat_natCast]
  omega
theorem andnot0 {z W : Int} (hz : 0 ≤ z ∧ z < 2147483648) (hW : 0 ≤ W ∧ W < 2147483648) : iAnd z (iXor W (-1)) = 0 ↔ ∀ i, i < 31 → z.toNat.testBit i = true → W.toNat.testBit i = true := by
  rw [andnot hz hW]
  constructor
  · intro h i hi hb
    have h0 : z.toNat &&& (W.toNat ^^^ (2 ^ 32 - 1)) = 0 := by omega
    have h1 := congrArg (fun x => Nat.testBit x i) h0
    simp only [Nat.testBit_and, Nat.testBit_xor, Nat.testBit_two_pow_sub_one, hb, Nat.zero_testBit] at h1
    have : decide (i < 32) = true := by simp; omega
    rw [this] at h1
    cases hw : W.toNat.testBit i
    · rw [hw] at h1; cases h1
    · rfl
  · intro h
    have h0 : z.toNat &&& (W.toNat ^^^ (2 ^ 32 - 1)) = 0 := by
      apply Nat.eq_of_testBit_eq
      intro i
      simp only [Nat.testBit_and, Nat.testBit_xor, Nat.testBit_two_pow_sub_one, Nat.zero_testBit]
      cases hb : z.toNat.testBit i with
      | false => rfl
      | true =>
        have hi : i < 31 := by
          apply Classical.byContradiction
          intro c
          have : z.toNat < 2 ^ i := Nat.lt_of_lt_of_le (show z.toNat < 2 ^ 31 by omega) (Nat.pow_le_pow_right (by decide) (by omega))
          rw [Nat.testBit_lt_two_pow this] at hb
          cases hb
        rw [h i hi hb]
        have : decide (i < 32) = true := by simp; omega
        rw [this]
        rfl
    omega
theorem lw_bit {wh : Int → Int} {p : Int} {i : Nat} : ∀ n : Nat, n ≤ 12 → (lwS wh p n).toNat.testBit i = decide (i < n ∧ wh i = p)
  | 0, _ => by
    have : lwS wh p 0 = 0 := rfl
    rw [this]
    simp
  | n + 1, h => by
    have ih := lw_bit (wh := wh) (p := p) (i := i) n (by omega)
    have hl := lwS_lt (wh := wh) (b := p) n
    obtain ⟨p1, p2⟩ := p2N n (by omega)
    have hs : lwS wh p (n + 1) = if wh n = p then lwS wh p n + 2 ^ n else lwS wh p n := rfl
    by_cases c : wh n = p
    · rw [if_pos c] at hs
      have e : (lwS wh p (n + 1)).toNat = 2 ^ n * 1 + (lwS wh p n).toNat := by rw [hs]; omega
      rw [e, Nat.two_pow_add_eq_or_of_lt (by omega), Nat.mul_one, Nat.testBit_or, Nat.testBit_two_pow, ih]
      by_cases c2 : n = i
      · subst c2
        simp [c]
      · by_cases c3 : i < n
        · have c4 : i < n + 1 := by omega
          simp [c2, c3, c4]
        · have c4 : ¬ i < n + 1 := by omega
          simp [c2, c3, c4]
    · rw [if_neg c] at hs
      rw [hs, ih]
      by_cases c2 : n = i
      · subst c2
        simp [c]
      · by_cases c3 : i < n
        · have c4 : i < n + 1 := by omega
          simp [c3, c4]
        · have c4 : ¬ i < n + 1 := by omega
          simp [c3, c4]
theorem mbr_len {z : Int} (hz : R32 z) : ∀ k : Nat, k < 32 → ((mbr z k).length : Int) = pc z k
  | 0, _ => rfl
  | k + 1, h => by
    have ih := mbr_len hz k (by omega)
    have hb := bit_at (s := z) (n := k) hz (by omega)
    rw [mbr_s, List.length_append, pc_s, ← hb]
    by_cases c : iAnd (iShr z k) 1 = 1
    · rw [if_pos c, c, List.length_singleton]
      omega
    · rw [if_neg c, List.length_nil]
      omega
theorem wait_iff {A : Int → Int} {z n : Int} (h1 : 0 ≤ A 1 ∧ A 1 ≤ 12) (hz : R32 z) : (0 < z ∧ bcE z ≤ n ∧ iAnd z (iXor (lwS (fun k => A (107 + k)) (-1) (A 1).toNat) (-1)) = 0) ↔ chO A z n := by
  obtain ⟨p1, p2⟩ := p2N (A 1).toNat (by omega)
  have hl := lwS_lt (wh := fun k => A (107 + k)) (b := -1) (A 1).toNat
  have hW : 0 ≤ lwS (fun k => A (107 + k)) (-1) (A 1).toNat ∧ lwS (fun k => A (107 + k)) (-1) (A 1).toNat < 2147483648 := by omega
  have hlb := fun i => lw_bit (wh := fun k => A (107 + k)) (p := -1) (i := i) (A 1).toNat (by omega)
  have hpc : 0 < z → z < 2 ^ (A 1).toNat → bcE z = ((mbr z (A 1).toNat).length : Int) := fun h2 h3 => by
    have hpm := pc_more (x := z) (n := (A 1).toNat) ⟨by omega, h3⟩ (12 - (A 1).toNat)
    rw [show (A 1).toNat + (12 - (A 1).toNat) = 12 by omega] at hpm
    rw [bcE_s (by omega), hpm, mbr_len hz _ (by omega)]
  constructor
  · rintro ⟨h2, h3, h4⟩
    have hz2 : 0 ≤ z ∧ z < 2147483648 := by unfold R32 at hz; omega
    have h5 := (andnot0 hz2 hW).mp h4
    have hlt : z.toNat < 2 ^ (A 1).toNat := by
      apply Nat.lt_pow_two_of_testBit
      intro i hi
      cases hb : z.toNat.testBit i with
      | false => rfl
      | true =>
        by_cases c : i < 31
        · have := h5 i c hb
          rw [hlb i, decide_eq_true_eq] at this
          omega
        · have : z.toNat < 2 ^ i := Nat.lt_of_lt_of_le (show z.toNat < 2 ^ 31 by omega) (Nat.pow_le_pow_right (by decide) (by omega))
          rw [Nat.testBit_lt_two_pow this] at hb
          cases hb
    have hlt2 : z < 2 ^ (A 1).toNat := by omega
    refine ⟨⟨by omega, by omega⟩, by rw [← hpc h2 hlt2]; exact h3, fun l hl2 hb => ?_⟩
    have := h5 l (by omega) ((bitN hz2 (by omega)).mp hb)
    rw [hlb l, decide_eq_true_eq] at this
    exact this.2
  · rintro ⟨⟨h2, h3⟩, h4, h5⟩
    have hz2 : 0 ≤ z ∧ z < 2147483648 := by omega
    refine ⟨by omega, by rw [hpc (by omega) (by omega)]; exact h4, (andnot0 hz2 hW).mpr (fun i hi hb => ?_)⟩
    have hil : i < (A 1).toNat := by
      apply Classical.byContradiction
      intro c
      have : z.toNat < 2 ^ i := Nat.lt_of_lt_of_le (show z.toNat < 2 ^ (A 1).toNat by omega) (Nat.pow_le_pow_right (by decide) (by omega))
      rw [Nat.testBit_lt_two_pow this] at hb
      cases hb
    rw [hlb i, decide_eq_true_eq]
    exact ⟨hil, h5 i hil ((bitN hz2 (by omega)).mpr hb)⟩
theorem mbr_31 {A : Int → Int} {z n : Int} (h1 : 0 ≤ A 1 ∧ A 1 ≤ 12) (h : chO A z n) : mbr z 31 = mbr z (A 1).toNat := by
  obtain ⟨p1, p2⟩ := p2N (A 1).toNat (by omega)
  obtain ⟨⟨h2, h3⟩, -, -⟩ := h
  have hz : R32 z := by unfold R32; omega
  refine mbr_eq 31 (by omega) ?_
  have hpm := pc_more (x := z) (n := (A 1).toNat) ⟨by omega, by omega⟩ (31 - (A 1).toNat)
  rw [show (A 1).toNat + (31 - (A 1).toNat) = 31 by omega] at hpm
  have e1 := mbr_len hz 31 (by omega)
  have e2 := mbr_len hz (A 1).toNat (by omega)
  omega
