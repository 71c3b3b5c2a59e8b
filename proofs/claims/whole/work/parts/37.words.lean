/-! loops, and the state as both sides mean it: a row of numbers as the reference lays it -/
theorem xBr_in {p : Prop} [Decidable (¬ p)] {K : mK} {t f : Nat} {lv : mL} {st : List mV} {M : mM} (h1 : ¬ p → K t lv st M) (h2 : p → K f lv st M) : xBr (¬ p) K t f lv st M :=
  xBr_i h1 (fun h => h2 (Classical.not_not.mp h))
theorem loopU {P : Nat → mL → mM → Prop} {G : mL → mM → Prop} (N : Nat) (step : ∀ k, k < N → (∀ lv M, P (k + 1) lv M → G lv M) → ∀ lv M, P k lv M → G lv M) (fin : ∀ lv M, P N lv M → G lv M) : ∀ n k, n + k = N → ∀ lv M, P k lv M → G lv M
  | 0, k, h, lv, M, hp => fin lv M (by rw [← h, Nat.zero_add]; exact hp)
  | n + 1, k, h, lv, M, hp => step k (by omega) (fun lv M hp => loopU N step fin n (k + 1) (by omega) lv M hp) lv M hp
theorem loopL {P : Nat → mL → mM → Prop} {G : mL → mM → Prop} (N k : Nat) (hk : k ≤ N) (lv : mL) (M : mM) (hp : P k lv M) (step : ∀ k, k < N → (∀ lv M, P (k + 1) lv M → G lv M) → ∀ lv M, P k lv M → G lv M) (fin : ∀ lv M, P N lv M → G lv M) : G lv M :=
  loopU N step fin (N - k) k (by omega) lv M hp
theorem fr_mono {S T : List Nat} {M M' : mM} (h : fr S M M') (hs : ∀ k, k ∈ S → k ∈ T) : fr T M M' := fun k hk => h k (fun e => hk (hs k e))
theorem fr_tr {S1 S2 T : List Nat} {M M1 M2 : mM} (h1 : fr S1 M M1) (h2 : fr S2 M1 M2) (e1 : ∀ k, k ∈ S1 → k ∈ T) (e2 : ∀ k, k ∈ S2 → k ∈ T) : fr T M M2 := fr_trans (fr_mono h1 e1) (fr_mono h2 e2)
abbrev RU : Type := Int → Option (List (Int × Int))
def brn (A : Int → Int) (b : Int) : Int := bS (A (101 + b)) (fun k => A (107 + k)) (fun k => A (22 + 3 * k)) b (A 1).toNat
def mny (A : Int → Int) (b : Int) : Int := cS (fun k => A (107 + k)) b (A 1).toNat
def ntq (ru : RU) (A : Int → Int) (b s ld cn : Int) : Int := noteP (ru 0) (A 80) (A 81) b s (A (10 + b)) (A (89 + b)) ld cn (A (95 + b))
def ntA (ru : RU) (A : Int → Int) (b : Int) : Int := ntq ru A b (A (83 + b)) (brn A b) (mny A b)
def hlA (ru : RU) (A : Int → Int) (b : Int) : Int := holdsP (ru 2) (A 80) (A 81) b (A (83 + b)) (A (10 + b)) (A (89 + b))
def clI (r : Option (List (Int × Int))) (f h a b : Int) : Int := if 0 < a ∧ 0 < b then (match r with
  | none => b2i (7 ≤ max a b / gcS 40 (max a b) (min a b))
  | some L => b2i (evL (nmT f h (max a b / gcS 40 (max a b) (min a b)) (min a b / gcS 40 (max a b) (min a b)) (min a b) (max a b)) L = 0)) else 0
theorem clI_01 {r : Option (List (Int × Int))} {f h a b : Int} : clI r f h a b = 0 ∨ clI r f h a b = 1 := by
  unfold clI
  split
  · split <;> exact b2i_01 _
  · exact Or.inl rfl
theorem clI_P {r : Option (List (Int × Int))} {f h a b : Int} : clI r f h a b = 1 ↔ clP r f h a b := by
  unfold clI clP
  by_cases e : 0 < a ∧ 0 < b
  · rw [if_pos e]
    cases r with
    | none => dsimp only; rw [b2i_1]; exact ⟨fun q => ⟨e.1, e.2, q⟩, fun q => q.2.2⟩
    | some L => dsimp only; rw [b2i_1]; exact ⟨fun q => ⟨e.1, e.2, q⟩, fun q => q.2.2⟩
  · rw [if_neg e]
    exact ⟨fun q => absurd q (by decide), fun q => absurd ⟨q.1, q.2.1⟩ e⟩
theorem clI_sym {r : Option (List (Int × Int))} {f h a b : Int} : clI r f h a b = clI r f h b a := by
  unfold clI
  rw [show max a b = max b a by omega, show min a b = min b a by omega]
  by_cases e : 0 < a ∧ 0 < b
  · rw [if_pos e, if_pos ⟨e.2, e.1⟩]
  · rw [if_neg e, if_neg (fun q => e ⟨q.2, q.1⟩)]
/-- two that are false, by their code (6 p + q) -/
def fpG (ru : RU) (A nt : Int → Int) (c : Nat) : Int := if c / 6 < c % 6 ∧ ((c % 6 : Nat) : Int) < A 0 ∧ iAnd (iShr (A (16 + (c / 6 : Nat))) (c % 6 : Nat)) 1 = 1 then clI (ru 1) (A 80) (A 81) (nt (c / 6 : Nat)) (nt (c % 6 : Nat)) else 0
/-- how many of the lowest are so -/
def cn (G : Nat → Int) : Nat → Nat
  | 0 => 0
  | n + 1 => if G n = 1 then cn G n + 1 else cn G n
theorem cn_s {G : Nat → Int} {n : Nat} : cn G (n + 1) = if G n = 1 then cn G n + 1 else cn G n := rfl
theorem cn_le {G : Nat → Int} : ∀ {a b : Nat}, a ≤ b → cn G a ≤ cn G b
  | a, 0, h => by
    have : a = 0 := by omega
    subst this; exact Nat.le_refl _
  | a, b + 1, h => by
    by_cases e : a = b + 1
    · subst e; exact Nat.le_refl _
    · have := cn_le (G := G) (show a ≤ b by omega)
      have e2 : cn G (b + 1) = if G b = 1 then cn G b + 1 else cn G b := rfl
      by_cases g : G b = 1
      · rw [if_pos g] at e2; omega
      · rw [if_neg g] at e2; omega
theorem cn_skip {G : Nat → Int} {a : Nat} : ∀ {b : Nat}, a ≤ b → (∀ c, a ≤ c → c < b → G c ≠ 1) → cn G b = cn G a
  | 0, h, _ => by
    have : a = 0 := by omega
    subst this; rfl
  | b + 1, h, g => by
    by_cases e : a = b + 1
    · subst e; rfl
    · have := cn_skip (G := G) (show a ≤ b by omega) (fun c h1 h2 => g c h1 (by omega))
      rw [cn_s, if_neg (g b (by omega) (by omega)), this]
theorem cn_ex {G : Nat → Int} {i : Nat} : ∀ {n : Nat}, i < cn G n → ∃ c, c < n ∧ G c = 1 ∧ cn G c = i
  | 0, h => by unfold cn at h; omega
  | n + 1, h => by
    by_cases e : i < cn G n
    · obtain ⟨c, h1, h2⟩ := cn_ex e
      exact ⟨c, by omega, h2⟩
    · rw [cn_s] at h
      split at h
      · rename_i g
        exact ⟨n, by omega, g, by omega⟩
      · omega
theorem cn_lt {G : Nat → Int} {c n : Nat} (h : c < n) (g : G c = 1) : cn G c < cn G n := by
  have := cn_le (G := G) (show c + 1 ≤ n by omega)
  rw [cn_s, if_pos g] at this
  omega
theorem cn_inj {G : Nat → Int} {a b : Nat} (ha : G a = 1) (hb : G b = 1) (h : cn G a = cn G b) : a = b := by
  rcases Nat.lt_trichotomy a b with q | q | q
  · have := cn_lt q ha; omega
  · exact q
  · have := cn_lt q hb; omega
theorem cn_0 {G : Nat → Int} {n : Nat} : cn G n = 0 ↔ ∀ c, c < n → G c ≠ 1 := by
  constructor
  · intro h c hc g
    have := cn_lt hc g
    omega
  · intro h
    have := cn_skip (G := G) (Nat.zero_le n) (fun c _ h2 => h c h2)
    rw [this]; rfl
theorem cn_cong {G H : Nat → Int} : ∀ {n : Nat}, (∀ c, c < n → (G c = 1 ↔ H c = 1)) → cn G n = cn H n
  | 0, _ => rfl
  | n + 1, h => by
    have ih := cn_cong (fun c hc => h c (by omega) : ∀ c, c < n → (G c = 1 ↔ H c = 1))
    rw [cn_s, cn_s]
    by_cases e : G n = 1
    · rw [if_pos e, if_pos ((h n (by omega)).mp e), ih]
    · rw [if_neg e, if_neg (fun q => e ((h n (by omega)).mpr q)), ih]
theorem cn_mono {G H : Nat → Int} : ∀ {n : Nat}, (∀ c, c < n → G c = 1 → H c = 1) → cn G n ≤ cn H n
  | 0, _ => Nat.le_refl _
  | n + 1, h => by
    have ih := cn_mono (fun c hc => h c (by omega) : ∀ c, c < n → G c = 1 → H c = 1)
    rw [cn_s, cn_s]
    by_cases e : G n = 1
    · rw [if_pos e, if_pos (h n (by omega) e)]; omega
    · rw [if_neg e]; split <;> omega
def gF (c : Nat) : Int := if c / 6 < c % 6 then 1 else 0
theorem gF_15 : ∀ c, c < 36 → gF c = 1 → cn gF c < 15 := by decide +kernel
theorem fpG_F {ru : RU} {A nt : Int → Int} {c : Nat} (h : fpG ru A nt c = 1) : c / 6 < c % 6 ∧ ((c % 6 : Nat) : Int) < A 0 := by
  unfold fpG at h
  by_cases e : c / 6 < c % 6 ∧ ((c % 6 : Nat) : Int) < A 0 ∧ iAnd (iShr (A (16 + (c / 6 : Nat))) (c % 6 : Nat)) 1 = 1
  · exact ⟨e.1, e.2.1⟩
  · rw [if_neg e] at h; cases h
theorem fpG_15 {ru : RU} {A nt : Int → Int} {c : Nat} (hc : c < 36) (h : c / 6 < c % 6) : cn (fpG ru A nt) c < 15 := by
  have h1 := gF_15 c hc (if_pos h)
  have h2 : cn (fpG ru A nt) c ≤ cn gF c := cn_mono (fun q _ hq => if_pos (fpG_F hq).1)
  omega
theorem fpG_at {ru : RU} {A nt : Int → Int} {p q : Nat} (hpq : p < q) (hq : q < 6) (hB : (q : Int) < A 0) : fpG ru A nt (6 * p + q) = if iAnd (iShr (A (16 + (p : Int))) (q : Int)) 1 = 1 then clI (ru 1) (A 80) (A 81) (nt p) (nt q) else 0 := by
  have e1 : (6 * p + q) / 6 = p := by omega
  have e2 : (6 * p + q) % 6 = q := by omega
  unfold fpG
  rw [e1, e2]
  by_cases e : iAnd (iShr (A (16 + (p : Int))) (q : Int)) 1 = 1
  · rw [if_pos ⟨hpq, hB, e⟩, if_pos e]
  · rw [if_neg (fun g => e g.2.2), if_neg e]
/-- the bridges of those -/
def orS (G : Nat → Int) : Nat → Int
  | 0 => 0
  | n + 1 => if G n = 1 then iOr (iOr (orS G n) (2 ^ (n / 6))) (2 ^ (n % 6)) else orS G n
theorem orS_s {G : Nat → Int} {n : Nat} : orS G (n + 1) = if G n = 1 then iOr (iOr (orS G n) (2 ^ (n / 6))) (2 ^ (n % 6)) else orS G n := rfl
theorem orS_skip {G : Nat → Int} {a : Nat} : ∀ {b : Nat}, a ≤ b → (∀ c, a ≤ c → c < b → G c ≠ 1) → orS G b = orS G a
  | 0, h, _ => by
    have : a = 0 := by omega
    subst this; rfl
  | b + 1, h, g => by
    by_cases e : a = b + 1
    · subst e; rfl
    · have := orS_skip (G := G) (show a ≤ b by omega) (fun c h1 h2 => g c h1 (by omega))
      rw [orS_s, if_neg (g b (by omega) (by omega)), this]
theorem p2_6 : ∀ n : Nat, n < 6 → (1 : Int) ≤ 2 ^ n ∧ (2 : Int) ^ n < 64 := by decide +kernel
theorem or_64 {x y : Int} (hx : 0 ≤ x ∧ x < 64) (hy : 0 ≤ y ∧ y < 64) : 0 ≤ iOr x y ∧ iOr x y < 64 ∧ x ≤ iOr x y ∧ y ≤ iOr x y := by
  rw [or_nat (by omega) (by omega)]
  have h := Nat.or_lt_two_pow (n := 6) (show x.toNat < 2 ^ 6 by omega) (show y.toNat < 2 ^ 6 by omega)
  have h1 : x.toNat ≤ x.toNat ||| y.toNat := Nat.left_le_or
  have h2 : y.toNat ≤ x.toNat ||| y.toNat := Nat.right_le_or
  omega
theorem orS_64 {G : Nat → Int} : ∀ {n : Nat}, n ≤ 36 → 0 ≤ orS G n ∧ orS G n < 64
  | 0, _ => by unfold orS; omega
  | n + 1, h => by
    have ih := orS_64 (G := G) (show n ≤ 36 by omega)
    rw [orS_s]
    split
    · have a := p2_6 (n / 6) (by omega)
      have b := p2_6 (n % 6) (by omega)
      have c := or_64 ih (show 0 ≤ (2 : Int) ^ (n / 6) ∧ (2 : Int) ^ (n / 6) < 64 by omega)
      have e := or_64 (show 0 ≤ iOr (orS G n) (2 ^ (n / 6)) ∧ iOr (orS G n) (2 ^ (n / 6)) < 64 by omega) (show 0 ≤ (2 : Int) ^ (n % 6) ∧ (2 : Int) ^ (n % 6) < 64 by omega)
      omega
    · exact ih
theorem orS_0 {G : Nat → Int} : ∀ {n : Nat}, n ≤ 36 → (orS G n = 0 ↔ cn G n = 0)
  | 0, _ => ⟨fun _ => rfl, fun _ => rfl⟩
  | n + 1, h => by
    have ih := orS_0 (G := G) (show n ≤ 36 by omega)
    have i2 := orS_64 (G := G) (show n ≤ 36 by omega)
    rw [orS_s, cn_s]
    split
    · have a := p2_6 (n / 6) (by omega)
      have b := p2_6 (n % 6) (by omega)
      have c := or_64 i2 (show 0 ≤ (2 : Int) ^ (n / 6) ∧ (2 : Int) ^ (n / 6) < 64 by omega)
      have e := or_64 (show 0 ≤ iOr (orS G n) (2 ^ (n / 6)) ∧ iOr (orS G n) (2 ^ (n / 6)) < 64 by omega) (show 0 ≤ (2 : Int) ^ (n % 6) ∧ (2 : Int) ^ (n % 6) < 64 by omega)
      omega
    · exact ih
theorem iOr_assoc {x y z : Int} (hx : 0 ≤ x ∧ x < 64) (hy : 0 ≤ y ∧ y < 64) (hz : 0 ≤ z ∧ z < 64) : iOr (iOr x y) z = iOr x (iOr y z) := by
  have a := or_64 hx hy
  have b := or_64 hy hz
  rw [or_nat (x := iOr x y) (by omega) (by omega), or_nat (x := x) (y := iOr y z) (by omega) (by omega), or_nat (x := x) (by omega) (by omega), or_nat (x := y) (by omega) (by omega)]
  simp only [Int.toNat_natCast, Nat.or_assoc]
theorem b2i_em {c : Prop} : (¬ c ∨ c) = True := propext ⟨fun _ => trivial, fun _ => (Classical.em c).elim Or.inr Or.inl⟩
