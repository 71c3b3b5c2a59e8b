/-! what both sides mean: sums, counts and sets over the loads -/
def bS (s0 : Int) (wh w : Int → Int) (b : Int) : Nat → Int
  | 0 => s0
  | k + 1 => if wh k = b then bS s0 wh w b k + w k else bS s0 wh w b k
def cS (wh : Int → Int) (b : Int) : Nat → Int
  | 0 => 0
  | k + 1 => if wh k = b then cS wh b k + 1 else cS wh b k
def lwS (wh : Int → Int) (p : Int) : Nat → Int
  | 0 => 0
  | k + 1 => if wh k = p then lwS wh p k + 2 ^ k else lwS wh p k
/-- how many of the lowest n bits are set -/
def pc (x : Int) : Nat → Int
  | 0 => 0
  | n + 1 => pc x n + x / 2 ^ n % 2
theorem bS_le {s0 : Int} {wh w : Int → Int} {b : Int} (h0 : 0 ≤ s0 ∧ s0 ≤ 60) {n : Nat} (hw : ∀ k : Nat, k < n → 0 ≤ w k ∧ w k ≤ 60) : ∀ k : Nat, k ≤ n → 0 ≤ bS s0 wh w b k ∧ bS s0 wh w b k ≤ 60 + 60 * k
  | 0, _ => by unfold bS; omega
  | k + 1, h => by
    have ih := bS_le (wh := wh) (b := b) h0 hw k (by omega)
    have := hw k (by omega)
    unfold bS
    split <;> omega
theorem bS_cong {s0 s1 : Int} {wh wh2 w w2 : Int → Int} {b : Int} (h0 : s0 = s1) : ∀ {n : Nat}, (∀ k : Nat, k < n → wh k = wh2 k ∧ w k = w2 k) → bS s0 wh w b n = bS s1 wh2 w2 b n
  | 0, _ => h0
  | n + 1, h => by
    unfold bS
    rw [(h n (by omega)).1, (h n (by omega)).2, bS_cong h0 (fun k hk => h k (by omega))]
theorem cS_cong {wh wh2 : Int → Int} {b : Int} : ∀ {n : Nat}, (∀ k : Nat, k < n → wh k = wh2 k) → cS wh b n = cS wh2 b n
  | 0, _ => rfl
  | n + 1, h => by
    unfold cS
    rw [h n (by omega), cS_cong (fun k hk => h k (by omega))]
theorem lwS_cong {wh wh2 : Int → Int} {b : Int} : ∀ {n : Nat}, (∀ k : Nat, k < n → wh k = wh2 k) → lwS wh b n = lwS wh2 b n
  | 0, _ => rfl
  | n + 1, h => by
    unfold lwS
    rw [h n (by omega), lwS_cong (fun k hk => h k (by omega))]
theorem cS_le {wh : Int → Int} {b : Int} : ∀ n : Nat, 0 ≤ cS wh b n ∧ cS wh b n ≤ n
  | 0 => by unfold cS; omega
  | n + 1 => by
    have := cS_le (wh := wh) (b := b) n
    unfold cS
    split <;> omega
theorem lwS_lt {wh : Int → Int} {b : Int} : ∀ n : Nat, 0 ≤ lwS wh b n ∧ lwS wh b n < 2 ^ n
  | 0 => by unfold lwS; decide
  | n + 1 => by
    have ih := lwS_lt (wh := wh) (b := b) n
    have e : (2 : Int) ^ (n + 1) = 2 ^ n + 2 ^ n := by rw [Int.pow_succ]; omega
    have hp : (0 : Int) < 2 ^ n := Int.pow_pos (by decide)
    unfold lwS
    split <;> omega
theorem pow_add (i m : Nat) : (2 : Int) ^ (i + m) = 2 ^ i * 2 ^ m := Int.pow_add 2 i m
/-- a bit above what was added stays -/
theorem bit_add {x : Int} {n i : Nat} (hx : 0 ≤ x ∧ x < 2 ^ n) : (x + 2 ^ n) / 2 ^ i % 2 = if i = n then 1 else x / 2 ^ i % 2 := by
  have hi : (0 : Int) < 2 ^ i := Int.pow_pos (by decide)
  by_cases e : i = n
  · subst e
    rw [if_pos rfl, show x + 2 ^ i = x + 1 * 2 ^ i by omega, Int.add_mul_ediv_right _ _ (by omega), Int.ediv_eq_zero_of_lt hx.1 hx.2]
    rfl
  · rw [if_neg e]
    rcases Nat.lt_or_ge i n with g | g
    · obtain ⟨m, rfl⟩ : ∃ m, n = i + (m + 1) := ⟨n - i - 1, by omega⟩
      rw [pow_add, Int.pow_succ, show x + 2 ^ i * (2 ^ m * 2) = x + (2 ^ m * 2) * 2 ^ i by rw [Int.mul_comm (2 ^ i)], Int.add_mul_ediv_right _ _ (by omega)]
      omega
    · obtain ⟨m, rfl⟩ : ∃ m, i = n + (m + 1) := ⟨i - n - 1, by omega⟩
      have h2 : (2 : Int) ^ n + 2 ^ n ≤ 2 ^ (n + (m + 1)) := by
        have hm : (1 : Int) ≤ 2 ^ m := Int.pow_pos (by decide)
        have hn : (0 : Int) < 2 ^ n := Int.pow_pos (by decide)
        rw [pow_add, Int.pow_succ]
        have := Int.mul_le_mul_of_nonneg_left hm (show 0 ≤ (2 : Int) ^ n * 2 by omega)
        have e2 : (2 : Int) ^ n * 2 * 2 ^ m = 2 ^ n * (2 ^ m * 2) := by rw [Int.mul_assoc, Int.mul_comm 2]
        omega
      rw [Int.ediv_eq_zero_of_lt (by omega) (by omega), Int.ediv_eq_zero_of_lt (by omega) (by omega)]
theorem lwS_bit {wh : Int → Int} {b : Int} {i : Nat} : ∀ n : Nat, lwS wh b n / 2 ^ i % 2 = if i < n ∧ wh i = b then 1 else 0
  | 0 => by
    unfold lwS
    rw [Int.zero_ediv, if_neg (by omega)]
    rfl
  | n + 1 => by
    have ih := lwS_bit (wh := wh) (b := b) (i := i) n
    unfold lwS
    by_cases e : wh n = b
    · rw [if_pos e, bit_add (lwS_lt n)]
      by_cases g : i = n
      · subst g; rw [if_pos rfl, if_pos ⟨by omega, e⟩]
      · rw [if_neg g, ih]
        by_cases q : i < n ∧ wh i = b
        · rw [if_pos q, if_pos ⟨by omega, q.2⟩]
        · rw [if_neg q, if_neg (by omega)]
    · rw [if_neg e, ih]
      by_cases q : i < n ∧ wh i = b
      · rw [if_pos q, if_pos ⟨by omega, q.2⟩]
      · rw [if_neg q, if_neg (fun r => by
          rcases Nat.lt_or_ge i n with a | a
          · exact q ⟨a, r.2⟩
          · have : i = n := by omega
            subst this; exact e r.2)]
theorem pc_cong {x y : Int} : ∀ {n : Nat}, (∀ i : Nat, i < n → x / 2 ^ i % 2 = y / 2 ^ i % 2) → pc x n = pc y n
  | 0, _ => rfl
  | n + 1, h => by
    unfold pc
    rw [h n (by omega), pc_cong (fun i hi => h i (by omega))]
theorem pc_lwS {wh : Int → Int} {b : Int} {n : Nat} : ∀ {m : Nat}, m ≤ n → pc (lwS wh b n) m = cS wh b m
  | 0, _ => rfl
  | m + 1, h => by
    unfold pc cS
    rw [pc_lwS (show m ≤ n by omega), lwS_bit]
    by_cases e : wh m = b
    · rw [if_pos ⟨by omega, e⟩, if_pos e]
    · rw [if_neg (fun q => e q.2), if_neg e]; omega
theorem pc_more {x : Int} {n : Nat} (hx : 0 ≤ x ∧ x < 2 ^ n) : ∀ m : Nat, pc x (n + m) = pc x n
  | 0 => rfl
  | m + 1 => by
    show pc x (n + m) + x / 2 ^ (n + m) % 2 = pc x n
    have h1 : (2 : Int) ^ n ≤ 2 ^ (n + m) := by
      rw [pow_add]
      have hm : (1 : Int) ≤ 2 ^ m := Int.pow_pos (by decide)
      have hn : (0 : Int) < 2 ^ n := Int.pow_pos (by decide)
      have := Int.mul_le_mul_of_nonneg_left hm (Int.le_of_lt hn)
      omega
    rw [pc_more hx m, Int.ediv_eq_zero_of_lt hx.1 (by omega)]
    omega
