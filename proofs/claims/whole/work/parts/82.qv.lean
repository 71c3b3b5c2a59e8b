/-! worlds, by their numbers -/
/-- the world of a number: of each load its bridge -/
def wd (C n x : Nat) : Int → Int := fun k => ((x / C ^ (n - 1 - k.toNat) % C : Nat) : Int) - 1
def vlW (C : Nat) (w : Int → Int) : Nat → Nat
  | 0 => 0
  | i + 1 => vlW C w i * C + (w i + 1).toNat
theorem vlW_s {C : Nat} {w : Int → Int} {i : Nat} : vlW C w (i + 1) = vlW C w i * C + (w i + 1).toNat := rfl
theorem vlW_c {C : Nat} {w v : Int → Int} : ∀ n : Nat, (∀ j : Nat, j < n → w j = v j) → vlW C w n = vlW C v n
  | 0, _ => rfl
  | n + 1, h => by rw [vlW_s, vlW_s, vlW_c n (fun j hj => h j (by omega)), h n (by omega)]
theorem vlW_lt {C : Nat} {w : Int → Int} : ∀ n : Nat, (∀ j : Nat, j < n → -1 ≤ w j ∧ w j + 1 < C) → vlW C w n < C ^ n
  | 0, _ => by show 0 < C ^ 0; rw [Nat.pow_zero]; decide
  | n + 1, h => by
    have ih := vlW_lt n (fun j hj => h j (by omega))
    have q := h n (by omega)
    rw [vlW_s, Nat.pow_succ]
    have h1 : (vlW C w n + 1) * C ≤ C ^ n * C := Nat.mul_le_mul_right C ih
    rw [Nat.add_mul] at h1
    omega
theorem vlW_dg {C : Nat} {w : Int → Int} {j : Nat} : ∀ n : Nat, (∀ j : Nat, j < n → -1 ≤ w j ∧ w j + 1 < C) → j < n → vlW C w n / C ^ (n - 1 - j) % C = (w j + 1).toNat
  | 0, _, h => by omega
  | n + 1, hw, h => by
    have q := hw n (by omega)
    have hC : 0 < C := by omega
    rw [vlW_s]
    by_cases e : j = n
    · subst e
      rw [show j + 1 - 1 - j = 0 by omega, Nat.pow_zero, Nat.div_one, Nat.mul_comm, Nat.mul_add_mod]
      exact Nat.mod_eq_of_lt (by omega)
    · rw [show n + 1 - 1 - j = (n - 1 - j) + 1 by omega, Nat.pow_succ, Nat.mul_comm (C ^ (n - 1 - j)) C, ← Nat.div_div_eq_div_mul, Nat.mul_comm (vlW C w n) C, Nat.mul_add_div hC, Nat.div_eq_of_lt (show (w n + 1).toNat < C by omega), Nat.add_zero]
      exact vlW_dg n (fun j hj => hw j (by omega)) (by omega)
theorem wd_vl {C n : Nat} {w : Int → Int} (hw : ∀ j : Nat, j < n → -1 ≤ w j ∧ w j + 1 < C) {k : Nat} (hk : k < n) : wd C n (vlW C w n) k = w k := by
  have := hw k hk
  show ((vlW C w n / C ^ (n - 1 - k) % C : Nat) : Int) - 1 = w k
  rw [vlW_dg n hw hk]
  omega
theorem wd_R {C n x : Nat} (hC : 0 < C) (k : Int) : -1 ≤ wd C n x k ∧ wd C n x k + 1 < C := by
  have := Nat.mod_lt (x / C ^ (n - 1 - k.toNat)) hC
  unfold wd
  omega
/-- the block of a beginning -/
theorem wd_blk {C n f i x : Nat} {w : Int → Int} (hf : f + (i + 1) = n) (hw : ∀ j : Nat, j < i + 1 → -1 ≤ w j ∧ w j + 1 < C) (h1 : vlW C w (i + 1) * C ^ f ≤ x) (h2 : x < (vlW C w (i + 1) + 1) * C ^ f) : wd C n x i = w i := by
  have q := hw i (by omega)
  have e : x / C ^ f = vlW C w (i + 1) := Nat.div_eq_of_lt_le h1 h2
  show ((x / C ^ (n - 1 - i) % C : Nat) : Int) - 1 = w i
  rw [show n - 1 - i = f by omega, e, vlW_s, Nat.mul_comm, Nat.mul_add_mod, Nat.mod_eq_of_lt (by omega)]
  omega
/-! what is heard in a world -/
def ntW (ru : RU) (A : Int → Int) (L : List Nat) (n : Nat) (w : Int → Int) (b : Int) : Int := ntq ru A b (A (83 + b)) (brn A b + wPt A L w b n) (mny A b + cPt w b n)
def upW (A : Int → Int) (v : Int) : Prop := v = -1 ∨ (0 ≤ v ∧ v < A 0 ∧ A (95 + v) = 0)
def WOK (ru : RU) (A : Int → Int) (L : List Nat) (n : Nat) (w : Int → Int) : Prop := (∀ k : Nat, k < n → upW A (w k)) ∧ ∀ h : Nat, (h : Int) < A 5 → ntW ru A L n w (A (58 + 2 * h)) = A (59 + 2 * h)
theorem ntW_c {ru : RU} {A : Int → Int} {L : List Nat} {n : Nat} {w v : Int → Int} (h : ∀ k : Nat, k < n → w k = v k) {b : Int} : ntW ru A L n w b = ntW ru A L n v b := by
  unfold ntW
  rw [wPt_c n (fun i hi => by rw [h i hi]), cPt_c n (fun i hi => by rw [h i hi])]
theorem WOK_c {ru : RU} {A : Int → Int} {L : List Nat} {n : Nat} {w v : Int → Int} (h : ∀ k : Nat, k < n → w k = v k) (g : WOK ru A L n w) : WOK ru A L n v :=
  ⟨fun k hk => by rw [← h k hk]; exact g.1 k hk, fun q hq => by rw [← ntW_c h]; exact g.2 q hq⟩
def cW (A : Int → Int) : Nat := (A 0).toNat + 1
noncomputable def gW (ru : RU) (A : Int → Int) (L : List Nat) (n x : Nat) : Int := @ite Int (WOK ru A L n (wd (cW A) n x)) (Classical.propDecidable _) 1 0
theorem gW_1 {ru : RU} {A : Int → Int} {L : List Nat} {n x : Nat} : gW ru A L n x = 1 ↔ WOK ru A L n (wd (cW A) n x) := by
  unfold gW
  by_cases c : WOK ru A L n (wd (cW A) n x)
  · rw [if_pos c]; exact ⟨fun _ => c, fun _ => rfl⟩
  · rw [if_neg c]; exact ⟨fun h => absurd h (by decide), fun h => absurd h c⟩
theorem gW_vl {ru : RU} {A : Int → Int} {L : List Nat} {n : Nat} {w : Int → Int} (hw : ∀ j : Nat, j < n → -1 ≤ w j ∧ w j + 1 < cW A) : gW ru A L n (vlW (cW A) w n) = 1 ↔ WOK ru A L n w := by
  have h : ∀ k : Nat, k < n → wd (cW A) n (vlW (cW A) w n) k = w k := fun k hk => wd_vl hw hk
  rw [gW_1]
  exact ⟨WOK_c h, WOK_c (fun k hk => (h k hk).symm)⟩
/-- of a bridge: in how many worlds just these are on it -/
noncomputable def gT (ru : RU) (A : Int → Int) (L : List Nat) (n b : Nat) (s : Int) (x : Nat) : Int := if gW ru A L n x = 1 ∧ lwS (wd (cW A) n x) b n = s then 1 else 0
theorem gT_1 {ru : RU} {A : Int → Int} {L : List Nat} {n b x : Nat} {s : Int} : gT ru A L n b s x = 1 ↔ gW ru A L n x = 1 ∧ lwS (wd (cW A) n x) b n = s := by
  unfold gT
  by_cases c : gW ru A L n x = 1 ∧ lwS (wd (cW A) n x) b n = s
  · rw [if_pos c]; exact ⟨fun _ => c, fun _ => rfl⟩
  · rw [if_neg c]; exact ⟨fun h => absurd h (by decide), fun h => absurd h c⟩
theorem p2_5 : ∀ n : Nat, n ≤ 5 → (1 : Int) ≤ 2 ^ n ∧ (2 : Int) ^ n ≤ 32 := by decide +kernel
theorem lwS_5 {w : Int → Int} {b : Int} {n : Nat} (hn : n ≤ 5) : 0 ≤ lwS w b n ∧ lwS w b n < 32 := by
  have := lwS_lt (wh := w) (b := b) n
  have := p2_5 n hn
  omega
theorem lwS_s {w : Int → Int} {b : Int} {k : Nat} : lwS w b (k + 1) = if w k = b then lwS w b k + 2 ^ k else lwS w b k := rfl
theorem bit_off : ∀ i : Nat, i < 5 → ∀ x : Nat, x < 32 → x < 2 ^ i → iAnd ((x : Int) + 2 ^ i) (iXor (2 ^ i) (-1)) = x := by decide +kernel
