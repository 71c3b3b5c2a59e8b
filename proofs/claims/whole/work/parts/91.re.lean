/-! a game: what both sides mean -/
def bo (o p : Nat) (q : Nat) : Nat := if q = 0 then o else p
def ntG (ru : RU) (A : Int → Int) (L : List Nat) (n o p : Nat) (D : Int → Int) : Int → Int := fun b => if b = o then ntq ru A o (A (83 + o)) (brn A o + wPt A L D 1 n) (mny A o + cPt D 1 n) else if b = p then ntq ru A p (A (83 + p)) (brn A p + wPt A L D 2 n) (mny A p + cPt D 2 n) else ntA ru A b
theorem ntG_R {ru : RU} {A : Int → Int} {L : List Nat} {n o p : Nat} {D : Int → Int} {b : Int} : 0 ≤ ntG ru A L n o p D b ∧ ntG ru A L n o p D b ≤ 999 := by
  unfold ntG
  split
  · exact ntq_R
  · split
    · exact ntq_R
    · exact ntA_R
theorem ntG_at {ru : RU} {A : Int → Int} {L : List Nat} {n o p q : Nat} {D : Int → Int} (hop : o ≠ p) (hq : q < 2) : ntG ru A L n o p D (bo o p q) = ntq ru A (bo o p q) (A (83 + (bo o p q : Nat))) (brn A (bo o p q) + wPt A L D ((q : Int) + 1) n) (mny A (bo o p q) + cPt D ((q : Int) + 1) n) := by
  rcases (show q = 0 ∨ q = 1 by omega) with rfl | rfl
  · show ntG ru A L n o p D o = _
    unfold ntG
    rw [if_pos rfl]
    rfl
  · show ntG ru A L n o p D p = _
    unfold ntG
    rw [if_neg (by omega), if_pos rfl]
    rfl
def fG (ru : RU) (A : Int → Int) (L : List Nat) (n o p : Nat) (D : Int → Int) : Nat := cn (fpG ru A (ntG ru A L n o p D)) 36
/-- who is to put, so many being left -/
def sd (n f : Nat) : Int := (((n - f) % 2 : Nat) : Int) + 1
def winR (ru : RU) (A : Int → Int) (L : List Nat) (n o p : Nat) : Nat → (Int → Int) → Int
  | 0, _ => 1
  | f + 1, D => if cn (fun k => if D k = 0 ∧ fG ru A L n o p (mU D k (sd n (f + 1))) = 0 ∧ winR ru A L n o p f (mU D k (sd n (f + 1))) = 0 then 1 else 0) n = 0 then 0 else 1
def mvG (ru : RU) (A : Int → Int) (L : List Nat) (n o p f : Nat) (D : Int → Int) (k : Nat) : Int := if D k = 0 ∧ fG ru A L n o p (mU D k (sd n (f + 1))) = 0 ∧ winR ru A L n o p f (mU D k (sd n (f + 1))) = 0 then 1 else 0
theorem winR_s {ru : RU} {A : Int → Int} {L : List Nat} {n o p f : Nat} {D : Int → Int} : winR ru A L n o p (f + 1) D = if cn (mvG ru A L n o p f D) n = 0 then 0 else 1 := rfl
theorem winR_01 {ru : RU} {A : Int → Int} {L : List Nat} {n o p : Nat} {D : Int → Int} : ∀ f, winR ru A L n o p f D = 0 ∨ winR ru A L n o p f D = 1
  | 0 => Or.inr rfl
  | f + 1 => by
    rw [winR_s]
    split
    · exact Or.inl rfl
    · exact Or.inr rfl
theorem ntG_c {ru : RU} {A : Int → Int} {L : List Nat} {n o p : Nat} {D E : Int → Int} (h : ∀ k : Nat, k < n → D k = E k) : ntG ru A L n o p D = ntG ru A L n o p E := by
  funext b
  unfold ntG
  rw [wPt_c (p1 := D) (p2 := E) (b := 1) n (fun i hi => by rw [h i hi]), wPt_c (p1 := D) (p2 := E) (b := 2) n (fun i hi => by rw [h i hi]), cPt_c (p1 := D) (p2 := E) (b := 1) n (fun i hi => by rw [h i hi]), cPt_c (p1 := D) (p2 := E) (b := 2) n (fun i hi => by rw [h i hi])]
theorem winR_c {ru : RU} {A : Int → Int} {L : List Nat} {n o p : Nat} : ∀ (f : Nat) {D E : Int → Int}, (∀ k : Nat, k < n → D k = E k) → winR ru A L n o p f D = winR ru A L n o p f E
  | 0, _, _, _ => rfl
  | f + 1, D, E, h => by
    have e : ∀ k, k < n → mvG ru A L n o p f D k = mvG ru A L n o p f E k := fun k hk => by
      have hu : ∀ j : Nat, j < n → mU D k (sd n (f + 1)) j = mU E k (sd n (f + 1)) j := fun j hj => by
        by_cases c : j = k
        · rw [c, mU_e, mU_e]
        · rw [mU_n (by omega), mU_n (by omega), h j hj]
      unfold mvG fG
      rw [h k hk, ntG_c hu, winR_c f hu]
    rw [winR_s, winR_s, cn_cong (fun k hk => by rw [e k hk])]
theorem mvG_c {ru : RU} {A : Int → Int} {L : List Nat} {n o p f k : Nat} {D E : Int → Int} (h : ∀ k : Nat, k < n → D k = E k) (hk : k < n) : mvG ru A L n o p f D k = mvG ru A L n o p f E k := by
  have hu : ∀ j : Nat, j < n → mU D k (sd n (f + 1)) j = mU E k (sd n (f + 1)) j := fun j hj => by
    by_cases c : j = k
    · rw [c, mU_e, mU_e]
    · rw [mU_n (by omega), mU_n (by omega), h j hj]
  unfold mvG fG
  rw [h k hk, ntG_c hu, winR_c f hu]
theorem mvG_1 {ru : RU} {A : Int → Int} {L : List Nat} {n o p f k : Nat} {D : Int → Int} : mvG ru A L n o p f D k = 1 ↔ D k = 0 ∧ fG ru A L n o p (mU D k (sd n (f + 1))) = 0 ∧ winR ru A L n o p f (mU D k (sd n (f + 1))) = 0 := by
  unfold mvG
  by_cases c : D k = 0 ∧ fG ru A L n o p (mU D k (sd n (f + 1))) = 0 ∧ winR ru A L n o p f (mU D k (sd n (f + 1))) = 0
  · rw [if_pos c]; exact ⟨fun _ => c, fun _ => rfl⟩
  · rw [if_neg c]; exact ⟨fun h => absurd h (by decide), fun h => absurd h c⟩
theorem ls_no {G : Nat → Int} : ∀ n, (∀ c, c < n → G c ≠ 1) → ls G n = -1
  | 0, _ => rfl
  | n + 1, h => ls_miss (ls_no n (fun c hc => h c (by omega))) (h n (by omega))
theorem ls_c {G H : Nat → Int} : ∀ n, (∀ c, c < n → G c = H c) → ls G n = ls H n
  | 0, _ => rfl
  | n + 1, h => by rw [ls_s, ls_s, ls_c n (fun c hc => h c (by omega)), h n (by omega)]
/-- one more put -/
theorem wPt_put {A D : Int → Int} {L : List Nat} {k : Nat} {s c : Int} (h0 : D k = 0) (hc : c ≠ 0) : ∀ m : Nat, wPt A L (mU D k s) c m = wPt A L D c m + if k < m ∧ c = s then A (22 + 3 * (L.getD k 0 : Nat)) else 0
  | 0 => by rw [if_neg (by omega)]; rfl
  | m + 1 => by
    have ih := wPt_put (A := A) (L := L) (s := s) h0 hc m
    rw [wPt_s, wPt_s, ih]
    by_cases e : m = k
    · subst e
      rw [mU_e, h0, if_neg (show ¬ (0 : Int) = c by omega), if_neg (show ¬ (m < m ∧ c = s) by omega)]
      by_cases g : s = c
      · rw [if_pos g, if_pos ⟨by omega, g.symm⟩]; omega
      · rw [if_neg g, if_neg (fun q => g q.2.symm)]
    · rw [mU_n (by omega)]
      by_cases g : k < m ∧ c = s
      · rw [if_pos g, if_pos (show k < m + 1 ∧ c = s from ⟨by omega, g.2⟩)]
        split <;> omega
      · rw [if_neg g, if_neg (show ¬ (k < m + 1 ∧ c = s) from fun q => g ⟨by omega, q.2⟩)]
        split <;> omega
theorem cPt_put {D : Int → Int} {k : Nat} {s c : Int} (h0 : D k = 0) (hc : c ≠ 0) : ∀ m : Nat, cPt (mU D k s) c m = cPt D c m + if k < m ∧ c = s then 1 else 0
  | 0 => by rw [if_neg (by omega)]; rfl
  | m + 1 => by
    have ih := cPt_put (s := s) h0 hc m
    rw [cPt_s, cPt_s, ih]
    by_cases e : m = k
    · subst e
      rw [mU_e, h0, if_neg (show ¬ (0 : Int) = c by omega), if_neg (show ¬ (m < m ∧ c = s) by omega)]
      by_cases g : s = c
      · rw [if_pos g, if_pos ⟨by omega, g.symm⟩]; omega
      · rw [if_neg g, if_neg (fun q => g q.2.symm)]
    · rw [mU_n (by omega)]
      by_cases g : k < m ∧ c = s
      · rw [if_pos g, if_pos (show k < m + 1 ∧ c = s from ⟨by omega, g.2⟩)]
        split <;> omega
      · rw [if_neg g, if_neg (show ¬ (k < m + 1 ∧ c = s) from fun q => g ⟨by omega, q.2⟩)]
        split <;> omega
theorem ntG_put {ru : RU} {A : Int → Int} {L : List Nat} {n o p q k : Nat} {D : Int → Int} {b : Int} (h0 : D k = 0) (hq : q < 2) (hb : b ≠ bo o p q) : ntG ru A L n o p (mU D k ((q : Int) + 1)) b = ntG ru A L n o p D b := by
  rcases (show q = 0 ∨ q = 1 by omega) with rfl | rfl
  · have hb2 : ¬ b = (o : Int) := hb
    have e1 : wPt A L (mU D k (((0 : Nat) : Int) + 1)) 2 n = wPt A L D 2 n := by rw [wPt_put h0 (by decide), if_neg (by omega), Int.add_zero]
    have e2 : cPt (mU D k (((0 : Nat) : Int) + 1)) 2 n = cPt D 2 n := by rw [cPt_put h0 (by decide), if_neg (by omega), Int.add_zero]
    unfold ntG
    rw [if_neg hb2, if_neg hb2, e1, e2]
  · have hb2 : ¬ b = (p : Int) := hb
    have e1 : wPt A L (mU D k (((1 : Nat) : Int) + 1)) 1 n = wPt A L D 1 n := by rw [wPt_put h0 (by decide), if_neg (by omega), Int.add_zero]
    have e2 : cPt (mU D k (((1 : Nat) : Int) + 1)) 1 n = cPt D 1 n := by rw [cPt_put h0 (by decide), if_neg (by omega), Int.add_zero]
    unfold ntG
    rw [if_neg hb2, if_neg hb2, e1, e2]
