/-! an hour, as it is meant -/
def bitA (ru : RU) (A : Int → Int) (b : Int) : Int := iAnd (iShr (orS (fpG ru A (ntA ru A)) 36) b) 1
def fsI (ru : RU) (A : Int → Int) (b : Int) : Int := if bitA ru A b = 1 ∧ holdsP (ru 2) (A 80) (A 81) b (A (83 + b)) (A (10 + b)) (A (89 + b) + 1) ≤ A (89 + b) + 1 then 1 else 0
def shF (A : Int → Int) : Int → Int := fun i => if 132 ≤ i ∧ i < 288 then A (i + 4) else A i
def fp1 (A : Int → Int) : Int → Int := if A 131 = 40 then mU (shF A) 131 39 else A
def fpush (A : Int → Int) (b h w br : Int) : Int → Int := mU (mU (mU (mU (mU (fp1 A) (132 + 4 * fp1 A 131) b) (132 + 4 * fp1 A 131 + 1) h) (132 + 4 * fp1 A 131 + 2) w) (132 + 4 * fp1 A 131 + 3) br) 131 (fp1 A 131 + 1)
def faA (ru : RU) (A : Int → Int) : Nat → Int → Int
  | 0 => A
  | b + 1 => if fsI ru A b = 1 then fpush (faA ru A b) b (A 81) (A (89 + b) + 1) (brn A b) else faA ru A b
theorem faA_s {ru : RU} {A : Int → Int} {b : Nat} : faA ru A (b + 1) = if fsI ru A b = 1 then fpush (faA ru A b) b (A 81) (A (89 + b) + 1) (brn A b) else faA ru A b := rfl
def goW (len : Int → Int) (w s : Int) : Int := if (0 ≤ w ∧ w < 6) ∧ s + 1 = len w then 6 else w
def goS (len : Int → Int) (w s : Int) : Int := if 0 ≤ w ∧ w < 6 then (if s + 1 = len w then 0 else s + 1) else s
def hW (ru : RU) (A : Int → Int) (l : Int) : Int := if l < A 1 then (if (0 ≤ A (107 + l) ∧ A (107 + l) < 6) ∧ fsI ru A (A (107 + l)) = 1 then 7 else goW (fun w => A (10 + w)) (A (107 + l)) (A (119 + l))) else A (107 + l)
def hS (ru : RU) (A : Int → Int) (l : Int) : Int := if l < A 1 then (if (0 ≤ A (107 + l) ∧ A (107 + l) < 6) ∧ fsI ru A (A (107 + l)) = 1 then 0 else goS (fun w => A (10 + w)) (A (107 + l)) (A (119 + l))) else A (119 + l)
def hA (ru : RU) (A : Int → Int) : Int → Int := fun i =>
  if 131 ≤ i then faA ru A (A 0).toNat i
  else if 119 ≤ i then hS ru A (i - 119)
  else if 107 ≤ i then hW ru A (i - 107)
  else if 101 ≤ i then (if fsI ru A (i - 101) = 1 then 0 else A i)
  else if 95 ≤ i then (if fsI ru A (i - 95) = 1 then 1 else A i)
  else if 89 ≤ i then A i + bitA ru A (i - 89)
  else if i = 81 then A 81 + 1 else A i
def hfell (ru : RU) (A : Int → Int) : Nat := cn (fun b => fsI ru A (b : Nat)) (A 0).toNat
theorem hA_lo {ru : RU} {A : Int → Int} {i : Int} (h : i < 89) (h2 : i ≠ 81) : hA ru A i = A i := by
  unfold hA
  rw [if_neg (by omega), if_neg (by omega), if_neg (by omega), if_neg (by omega), if_neg (by omega), if_neg (by omega), if_neg h2]
theorem hA_81 {ru : RU} {A : Int → Int} : hA ru A 81 = A 81 + 1 := by
  unfold hA
  rw [if_neg (by omega), if_neg (by omega), if_neg (by omega), if_neg (by omega), if_neg (by omega), if_neg (by omega), if_pos rfl]
theorem hA_w {ru : RU} {A : Int → Int} {b : Int} (h : 0 ≤ b ∧ b < 6) : hA ru A (89 + b) = A (89 + b) + bitA ru A b := by
  unfold hA
  rw [if_neg (by omega), if_neg (by omega), if_neg (by omega), if_neg (by omega), if_neg (by omega), if_pos (by omega), show 89 + b - 89 = b by omega]
theorem hA_d {ru : RU} {A : Int → Int} {b : Int} (h : 0 ≤ b ∧ b < 6) : hA ru A (95 + b) = if fsI ru A b = 1 then 1 else A (95 + b) := by
  unfold hA
  rw [if_neg (by omega), if_neg (by omega), if_neg (by omega), if_neg (by omega), if_pos (by omega), show 95 + b - 95 = b by omega]
theorem hA_s {ru : RU} {A : Int → Int} {b : Int} (h : 0 ≤ b ∧ b < 6) : hA ru A (101 + b) = if fsI ru A b = 1 then 0 else A (101 + b) := by
  unfold hA
  rw [if_neg (by omega), if_neg (by omega), if_neg (by omega), if_pos (by omega), show 101 + b - 101 = b by omega]
theorem hA_wh {ru : RU} {A : Int → Int} {l : Int} (h : 0 ≤ l ∧ l < 12) : hA ru A (107 + l) = hW ru A l := by
  unfold hA
  rw [if_neg (by omega), if_neg (by omega), if_pos (by omega), show 107 + l - 107 = l by omega]
theorem hA_si {ru : RU} {A : Int → Int} {l : Int} (h : 0 ≤ l ∧ l < 12) : hA ru A (119 + l) = hS ru A l := by
  unfold hA
  rw [if_neg (by omega), if_pos (by omega), show 119 + l - 119 = l by omega]
theorem hA_hi {ru : RU} {A : Int → Int} {i : Int} (h : 131 ≤ i) : hA ru A i = faA ru A (A 0).toNat i := by
  unfold hA
  rw [if_pos h]
theorem fp1_lo {A : Int → Int} {i : Int} (h : i < 131) : fp1 A i = A i := by
  unfold fp1
  split
  · rw [mU_n (by omega)]; unfold shF; rw [if_neg (by omega)]
  · rfl
theorem fp1_R {A : Int → Int} (h : 0 ≤ A 131 ∧ A 131 ≤ 40) : 0 ≤ fp1 A 131 ∧ fp1 A 131 ≤ 39 := by
  unfold fp1
  split
  · rw [mU_e]; omega
  · omega
theorem fpush_lo {A : Int → Int} {b h w br i : Int} (hR : 0 ≤ A 131 ∧ A 131 ≤ 40) (hi : i < 131) : fpush A b h w br i = A i := by
  have := fp1_R hR
  unfold fpush
  rw [mU_n (by omega), mU_n (by omega), mU_n (by omega), mU_n (by omega), mU_n (by omega), fp1_lo hi]
theorem fpush_R {A : Int → Int} {b h w br : Int} (hR : 0 ≤ A 131 ∧ A 131 ≤ 40) : 0 ≤ fpush A b h w br 131 ∧ fpush A b h w br 131 ≤ 40 := by
  have := fp1_R hR
  unfold fpush
  rw [mU_e]
  omega
theorem faA_R {ru : RU} {A : Int → Int} (hR : 0 ≤ A 131 ∧ A 131 ≤ 40) : ∀ n, 0 ≤ faA ru A n 131 ∧ faA ru A n 131 ≤ 40
  | 0 => hR
  | n + 1 => by
    unfold faA
    split
    · exact fpush_R (faA_R hR n)
    · exact faA_R hR n
theorem faA_lo {ru : RU} {A : Int → Int} (hR : 0 ≤ A 131 ∧ A 131 ≤ 40) {i : Int} (hi : i < 131) : ∀ n, faA ru A n i = A i
  | 0 => rfl
  | n + 1 => by
    unfold faA
    split
    · rw [fpush_lo (faA_R hR n) hi, faA_lo hR hi n]
    · exact faA_lo hR hi n
/-- bits of a union -/
theorem or_bit {x y : Int} (hx : 0 ≤ x ∧ x < 64) (hy : 0 ≤ y ∧ y < 64) (n : Nat) : iOr x y / 2 ^ n % 2 = 1 ↔ x / 2 ^ n % 2 = 1 ∨ y / 2 ^ n % 2 = 1 := by
  rw [or_nat (by omega) (by omega)]
  obtain ⟨a, rfl⟩ := Int.eq_ofNat_of_zero_le hx.1
  obtain ⟨c, rfl⟩ := Int.eq_ofNat_of_zero_le hy.1
  have key : ∀ z : Nat, ((z : Int) / 2 ^ n % 2 = 1) ↔ z.testBit n = true := by
    intro z
    rw [Nat.testBit_eq_decide_div_mod_eq, decide_eq_true_eq]
    have : ((2 : Int) ^ n) = ((2 ^ n : Nat) : Int) := by rw [Int.natCast_pow]; rfl
    rw [this]
    omega
  rw [Int.toNat_natCast, Int.toNat_natCast, key, key, key, Nat.testBit_or, Bool.or_eq_true]
theorem p2_bit : ∀ m, m < 6 → ∀ n, n < 31 → ((2 : Int) ^ m / 2 ^ n % 2 = 1 ↔ m = n) := by decide +kernel
theorem orS_bit {G : Nat → Int} {b : Nat} (hb : b < 31) : ∀ {n : Nat}, n ≤ 36 → (orS G n / 2 ^ b % 2 = 1 ↔ ∃ c, c < n ∧ G c = 1 ∧ (c / 6 = b ∨ c % 6 = b))
  | 0, _ => by
    unfold orS
    rw [Int.zero_ediv]
    constructor
    · intro h; cases h
    · rintro ⟨c, h, -⟩; omega
  | n + 1, h => by
    have ih := orS_bit (G := G) hb (show n ≤ 36 by omega)
    have i2 := orS_64 (G := G) (show n ≤ 36 by omega)
    unfold orS
    split
    · rename_i g
      have a := p2_6 (n / 6) (by omega)
      have b1 := p2_6 (n % 6) (by omega)
      have c := or_64 i2 (show 0 ≤ (2 : Int) ^ (n / 6) ∧ (2 : Int) ^ (n / 6) < 64 by omega)
      rw [or_bit ⟨c.1, c.2.1⟩ (by omega), or_bit i2 (by omega), ih, p2_bit _ (by omega) _ hb, p2_bit _ (by omega) _ hb]
      constructor
      · rintro ((⟨c, h1, h2⟩ | h1) | h1)
        · exact ⟨c, by omega, h2⟩
        · exact ⟨n, by omega, g, Or.inl h1⟩
        · exact ⟨n, by omega, g, Or.inr h1⟩
      · rintro ⟨c, h1, h2, h3⟩
        by_cases e : c = n
        · subst e
          rcases h3 with h3 | h3
          · exact Or.inl (Or.inr h3)
          · exact Or.inr h3
        · exact Or.inl (Or.inl ⟨c, by omega, h2, h3⟩)
    · rename_i g
      rw [ih]
      constructor
      · rintro ⟨c, h1, h2⟩
        exact ⟨c, by omega, h2⟩
      · rintro ⟨c, h1, h2, h3⟩
        exact ⟨c, by rcases (show c = n ∨ c < n by omega) with rfl | q; exact absurd h2 g; exact q, h2, h3⟩
theorem bitA_eq {ru : RU} {A : Int → Int} {b : Nat} (hb : b < 31) : bitA ru A b = orS (fpG ru A (ntA ru A)) 36 / 2 ^ b % 2 := by
  have h := orS_64 (G := fpG ru A (ntA ru A)) (Nat.le_refl 36)
  unfold bitA
  exact bit_at (by unfold R32; omega) (by omega)
theorem bitA_01 {ru : RU} {A : Int → Int} {b : Nat} (hb : b < 31) : bitA ru A b = 0 ∨ bitA ru A b = 1 := by
  rw [bitA_eq hb]
  omega
theorem clI_pos {r : Option (List (Int × Int))} {f h a b : Int} (g : clI r f h a b = 1) : 0 < a ∧ 0 < b := by
  unfold clI at g
  by_cases e : 0 < a ∧ 0 < b
  · exact e
  · rw [if_neg e] at g; cases g
theorem fpG_pos {ru : RU} {A nt : Int → Int} {c : Nat} (g : fpG ru A nt c = 1) : 0 < nt (c / 6 : Nat) ∧ 0 < nt (c % 6 : Nat) := by
  unfold fpG at g
  by_cases e : c / 6 < c % 6 ∧ ((c % 6 : Nat) : Int) < A 0 ∧ iAnd (iShr (A (16 + (c / 6 : Nat))) (c % 6 : Nat)) 1 = 1
  · rw [if_pos e] at g; exact clI_pos g
  · rw [if_neg e] at g; cases g
theorem bitA_up {ru : RU} {A : Int → Int} {b : Nat} (hb : b < 31) (h : bitA ru A b = 1) : (b : Int) < A 0 ∧ A (95 + b) = 0 := by
  rw [bitA_eq hb, orS_bit hb (Nat.le_refl 36)] at h
  obtain ⟨c, h1, h2, h3⟩ := h
  have p1 := fpG_F h2
  have p2 := fpG_pos h2
  have key : ∀ x : Int, 0 < ntA ru A x → A (95 + x) = 0 := by
    intro x hx
    unfold ntA ntq noteP at hx
    by_cases e : A (95 + x) = 0
    · exact e
    · rw [if_pos (Or.inr e)] at hx; omega
  rcases h3 with h3 | h3
  · rw [← h3]; exact ⟨by omega, key _ p2.1⟩
  · rw [← h3]; exact ⟨by omega, key _ p2.2⟩
theorem fsI_bit {ru : RU} {A : Int → Int} {b : Int} (h : fsI ru A b = 1) : bitA ru A b = 1 := by
  unfold fsI at h
  by_cases e : bitA ru A b = 1
  · exact e
  · rw [if_neg (fun q => e q.1)] at h; cases h
theorem holdsP_R {r : Option (List (Int × Int))} {f h b s ln we : Int} : 1 ≤ holdsP r f h b s ln we ∧ holdsP r f h b s ln we ≤ 99 := by
  unfold holdsP
  split <;> omega
theorem fsI_no {ru : RU} {A : Int → Int} {b : Nat} (hb : b < 31) (h : fsI ru A b ≠ 1) : bitA ru A b = 1 → A (89 + b) + 1 < 99 := by
  intro e
  unfold fsI at h
  have := holdsP_R (r := ru 2) (f := A 80) (h := A 81) (b := b) (s := A (83 + b)) (ln := A (10 + b)) (we := A (89 + b) + 1)
  by_cases g : holdsP (ru 2) (A 80) (A 81) b (A (83 + b)) (A (10 + b)) (A (89 + b) + 1) ≤ A (89 + b) + 1
  · rw [if_pos ⟨e, g⟩] at h; exact absurd rfl h
  · omega
theorem hA_WS {ru : RU} {A : Int → Int} (h : WS A) : WS (hA ru A) := by
  unfold WS at h ⊢
  rw [hA_lo (i := 0) (by decide) (by decide), hA_lo (i := 1) (by decide) (by decide)]
  refine ⟨h.1, h.2.1, fun b hb => ?_, fun l hl => ?_, fun p q hp hq => ?_⟩
  · rw [hA_lo (i := 10 + b) (by omega) (by omega), hA_lo (i := 16 + b) (by omega) (by omega)]; exact h.2.2.1 b hb
  · rw [hA_lo (i := 22 + 3 * l) (by omega) (by omega), hA_lo (i := 23 + 3 * l) (by omega) (by omega), hA_lo (i := 24 + 3 * l) (by omega) (by omega)]; exact h.2.2.2.1 l hl
  · rw [hA_lo (i := 16 + p) (by omega) (by omega), hA_lo (i := 16 + q) (by omega) (by omega)]; exact h.2.2.2.2 p q hp hq
theorem hWS_c (ru : RU) (A : Int → Int) (l : Int) : (l < A 1 ∧ (0 ≤ A (107 + l) ∧ A (107 + l) < 6) ∧ fsI ru A (A (107 + l)) = 1 ∧ hW ru A l = 7 ∧ hS ru A l = 0) ∨ (l < A 1 ∧ (0 ≤ A (107 + l) ∧ A (107 + l) < 6) ∧ fsI ru A (A (107 + l)) ≠ 1 ∧ A (119 + l) + 1 = A (10 + A (107 + l)) ∧ hW ru A l = 6 ∧ hS ru A l = 0) ∨ (l < A 1 ∧ (0 ≤ A (107 + l) ∧ A (107 + l) < 6) ∧ fsI ru A (A (107 + l)) ≠ 1 ∧ A (119 + l) + 1 ≠ A (10 + A (107 + l)) ∧ hW ru A l = A (107 + l) ∧ hS ru A l = A (119 + l) + 1) ∨ (l < A 1 ∧ (A (107 + l) < 0 ∨ 6 ≤ A (107 + l)) ∧ hW ru A l = A (107 + l) ∧ hS ru A l = A (119 + l)) ∨ (A 1 ≤ l ∧ hW ru A l = A (107 + l) ∧ hS ru A l = A (119 + l)) := by
  unfold hW hS goW goS
  by_cases g0 : l < A 1
  · rw [if_pos g0, if_pos g0]
    by_cases g1 : 0 ≤ A (107 + l) ∧ A (107 + l) < 6
    · by_cases g2 : fsI ru A (A (107 + l)) = 1
      · exact Or.inl ⟨g0, g1, g2, if_pos ⟨g1, g2⟩, if_pos ⟨g1, g2⟩⟩
      · have n2 : ¬ ((0 ≤ A (107 + l) ∧ A (107 + l) < 6) ∧ fsI ru A (A (107 + l)) = 1) := fun q => g2 q.2
        rw [if_neg n2, if_neg n2, if_pos g1]
        by_cases g3 : A (119 + l) + 1 = A (10 + A (107 + l))
        · exact Or.inr (Or.inl ⟨g0, g1, g2, g3, if_pos ⟨g1, g3⟩, if_pos g3⟩)
        · exact Or.inr (Or.inr (Or.inl ⟨g0, g1, g2, g3, if_neg (fun q => g3 q.2), if_neg g3⟩))
    · have n2 : ¬ ((0 ≤ A (107 + l) ∧ A (107 + l) < 6) ∧ fsI ru A (A (107 + l)) = 1) := fun q => g1 q.1
      rw [if_neg n2, if_neg n2, if_neg g1]
      exact Or.inr (Or.inr (Or.inr (Or.inl ⟨g0, by omega, if_neg (fun q => g1 q.1), rfl⟩)))
  · rw [if_neg g0, if_neg g0]
    exact Or.inr (Or.inr (Or.inr (Or.inr ⟨by omega, rfl, rfl⟩)))
theorem hA_WD {ru : RU} {A : Int → Int} (hw : WS A) (h : WD A) (hh : A 81 ≤ 1999) : WD (hA ru A) := by
  unfold WD
  rw [hA_lo (i := 0) (by decide) (by decide), hA_lo (i := 1) (by decide) (by decide), hA_lo (i := 80) (by decide) (by decide), hA_lo (i := 82) (by decide) (by decide), hA_81]
  refine ⟨h.1, by have := h.2.1; omega, h.2.2.1, fun b hb => ?_, fun l hl => ?_⟩
  · have e := h.2.2.2.1 b hb
    rw [hA_lo (i := 83 + b) (by omega) (by omega), hA_w (b := b) (by omega), hA_d (b := b) (by omega), hA_s (b := b) (by omega)]
    have b1 := bitA_01 (ru := ru) (A := A) (show b < 31 by omega)
    have b2 := bitA_up (ru := ru) (A := A) (show b < 31 by omega)
    have b3 := fsI_no (ru := ru) (A := A) (show b < 31 by omega)
    have b4 := fsI_bit (ru := ru) (A := A) (b := b)
    by_cases g : fsI ru A b = 1
    · have b5 := b2 (b4 g)
      rw [if_pos g, if_pos g]
      omega
    · have b6 := b3 g
      rw [if_neg g, if_neg g]
      rcases b1 with b1 | b1
      · omega
      · have b5 := b2 b1
        have b7 := b6 b1
        omega
  · have e := h.2.2.2.2 l hl
    have w0 := hw.1
    rw [hA_wh (l := l) (by omega), hA_si (l := l) (by omega)]
    rcases hWS_c ru A l with ⟨a1, a2, a3, a4, a5⟩ | ⟨a1, a2, a3, a6, a4, a5⟩ | ⟨a1, a2, a3, a6, a4, a5⟩ | ⟨a1, a2, a4, a5⟩ | ⟨a1, a4, a5⟩
    · rw [a4, a5]; omega
    · rw [a4, a5]; omega
    · have e2 := e.2.2.1 a1 a2.1 a2.2
      obtain ⟨z, hz⟩ : ∃ z : Nat, A (107 + l) = z := ⟨(A (107 + l)).toNat, by omega⟩
      have wl := hw.2.2.1 z (by omega)
      rw [a4, a5, hA_lo (i := 10 + A (107 + l)) (by omega) (by omega)]
      rw [← hz] at wl
      omega
    · rw [a4, a5]; omega
    · rw [a4, a5]; omega
