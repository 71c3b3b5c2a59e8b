/-! text: the reference's next token -/
def cdN (f : Int → Int) (a : Nat) : Nat → Int
  | 0 => 0
  | m + 1 => if m < 8 then 64 * cdN f a m + f ((a : Int) + m) - 64 else cdN f a m
theorem cdN_s {f : Int → Int} {a m : Nat} : cdN f a (m + 1) = if m < 8 then 64 * cdN f a m + f ((a : Int) + m) - 64 else cdN f a m := rfl
theorem p64 : ∀ m, m < 9 → (64 : Int) ^ m ≤ 281474976710656 := by decide
theorem cdN_R {f : Int → Int} {a : Nat} : ∀ m : Nat, (∀ j : Nat, j < m → isLt (f ((a : Int) + j))) → 0 ≤ cdN f a m ∧ cdN f a m < 281474976710656 ∧ (m ≤ 8 → cdN f a m < 64 ^ m) ∧ (m ≤ 8 → 1 ≤ m → 64 ^ (m - 1) ≤ cdN f a m)
  | 0, _ => ⟨Int.le_refl _, by unfold cdN; decide, fun _ => by unfold cdN; decide, fun _ h => by omega⟩
  | m + 1, h => by
    obtain ⟨h1, h2, h3, h4⟩ := cdN_R (f := f) (a := a) m (fun j hj => h j (by omega))
    have hm := h m (by omega)
    unfold isLt at hm
    rw [cdN_s]
    by_cases c : m < 8
    · rw [if_pos c]
      have h5 := h3 (by omega)
      have p1 : (64 : Int) ^ (m + 1) = 64 ^ m * 64 := Int.pow_succ _ _
      have p2 := p64 (m + 1) (by omega)
      refine ⟨by omega, by omega, fun _ => by omega, fun _ _ => ?_⟩
      rw [Nat.add_sub_cancel]
      rcases Nat.eq_zero_or_pos m with g | g
      · subst g
        rw [show (64 : Int) ^ 0 = 1 from rfl]
        unfold cdN
        omega
      · have h6 := h4 (by omega) g
        have p4 : (64 : Int) ^ m = 64 ^ (m - 1) * 64 := by
          obtain ⟨m', rfl⟩ : ∃ m', m = m' + 1 := ⟨m - 1, by omega⟩
          exact Int.pow_succ 64 m'
        omega
    · rw [if_neg c]
      exact ⟨h1, h2, fun g => by omega, fun g => by omega⟩
theorem cdN_c {f g : Int → Int} {a b : Nat} : ∀ m : Nat, (∀ j : Nat, j < m → f ((a : Int) + j) = g ((b : Int) + j)) → cdN f a m = cdN g b m
  | 0, _ => rfl
  | m + 1, h => by
    rw [cdN_s, cdN_s, cdN_c m (fun j hj => h j (by omega)), h m (by omega)]
theorem cdN_inj {f g : Int → Int} {a b : Nat} : ∀ m m' : Nat, m ≤ 8 → m' ≤ 8 → (∀ j : Nat, j < m → isLt (f ((a : Int) + j))) → (∀ j : Nat, j < m' → isLt (g ((b : Int) + j))) → cdN f a m = cdN g b m' → m = m' ∧ ∀ j : Nat, j < m → f ((a : Int) + j) = g ((b : Int) + j)
  | 0, 0, _, _, _, _, _ => ⟨rfl, fun j hj => by omega⟩
  | 0, m' + 1, _, h2, _, hg, e => by
    have := (cdN_R (m' + 1) hg).2.2.2 h2 (by omega)
    have p : (0 : Int) < 64 ^ (m' + 1 - 1) := Int.pow_pos (by decide)
    have e0 : cdN f a 0 = 0 := rfl
    omega
  | m + 1, 0, h1, _, hf, _, e => by
    have := (cdN_R (m + 1) hf).2.2.2 h1 (by omega)
    have p : (0 : Int) < 64 ^ (m + 1 - 1) := Int.pow_pos (by decide)
    have e0 : cdN g b 0 = 0 := rfl
    omega
  | m + 1, m' + 1, h1, h2, hf, hg, e => by
    have q1 := hf m (by omega)
    have q2 := hg m' (by omega)
    unfold isLt at q1 q2
    rw [cdN_s, cdN_s, if_pos (by omega), if_pos (by omega)] at e
    obtain ⟨i1, i2⟩ := cdN_inj m m' (by omega) (by omega) (fun j hj => hf j (by omega)) (fun j hj => hg j (by omega)) (by omega)
    subst i1
    refine ⟨rfl, fun j hj => ?_⟩
    by_cases c : j = m
    · rw [c]; omega
    · exact i2 j (by omega)
def wlL : List Nat := [4, 4, 5, 4, 2, 4, 4, 6, 5, 5, 2, 2, 2, 3, 3, 6, 6, 6, 4, 4, 4, 2, 4, 3, 4, 6, 4, 5]
def wcL : List Int := [12254501, 13851557, 683591987, 13826860, 2543, 10681714, 11951012, 55646526375, 650837236, 869407652, 3054, 3375, 3058, 138148, 191476, 37356980709, 55646575527, 47877618984, 14571634, 11728996, 11934649, 3440, 9633262, 183287, 10656232, 59687467572, 11443108, 868178852]
def isLtb (x : Int) : Bool := (decide (97 ≤ x) && decide (x ≤ 122)) || (decide (65 ≤ x) && decide (x ≤ 90))
theorem isLtb_i {x : Int} (h : isLtb x = true) : isLt x := by
  unfold isLtb at h
  unfold isLt
  simp only [Bool.or_eq_true, Bool.and_eq_true, decide_eq_true_eq] at h
  exact h
theorem wl_6 : ∀ w, w < 28 → wlL.getD w 0 ≤ 6 := by decide
theorem wl_t : ∀ w : Nat, w < 28 → ∀ i : Nat, i < 6 → if i < wlL.getD w 0 then isLtb (CT 148 ((w : Int) * 6 + i)) = true else CT 148 ((w : Int) * 6 + i) = 32 := by decide +kernel
theorem wc_t : ∀ w : Nat, w < 28 → cdN (CT 148) (w * 6) (wlL.getD w 0) = wcL.getD w 0 := by decide +kernel
theorem wc_lt : ∀ w : Nat, w < 28 → wcL.getD w 0 < 68719476736 := by decide
theorem wc_inj : ∀ w : Nat, w < 28 → ∀ u : Nat, u < w → wcL.getD w 0 ≠ wcL.getD u 0 := by decide +kernel
theorem nlt32 {x : Int} (h : isLt x) : x ≠ 32 := by
  unfold isLt at h
  omega
/-- a word that fits has just that number -/
theorem wMt_cd {f : Int → Int} {a q w : Nat} (haq : a ≤ q) (h6 : q ≤ a + 6) (hw : w < 28) (hl : ∀ j : Nat, j < q - a → isLt (f ((a : Int) + j))) : wMt f a q w ↔ cdN f a (q - a) = wcL.getD w 0 := by
  have ht := wl_t w hw
  have hl6 := wl_6 w hw
  rw [← wc_t w hw]
  constructor
  · intro h
    have e : q - a = wlL.getD w 0 := by
      rcases Nat.lt_trichotomy (q - a) (wlL.getD w 0) with g | g | g
      · have h1 := h (q - a) (by omega)
        have h2 := ht (q - a) (by omega)
        rw [if_neg (by omega)] at h1
        rw [if_pos g, h1] at h2
        exact absurd h2 (by decide)
      · exact g
      · have h1 := h (wlL.getD w 0) (by omega)
        have h2 := ht (wlL.getD w 0) (by omega)
        rw [if_pos (by omega)] at h1
        rw [if_neg (by omega), h1] at h2
        exact absurd h2 (nlt32 (hl _ g))
    rw [← e]
    refine cdN_c _ (fun j hj => ?_)
    have h1 := h j (by omega)
    rw [if_pos (by omega)] at h1
    rw [← h1]
    congr 1
  · intro h
    obtain ⟨e, h2⟩ := cdN_inj (q - a) (wlL.getD w 0) (by omega) (by omega) hl (fun j hj => by
      have h2 := ht j (by omega)
      rw [if_pos hj] at h2
      have h3 := isLtb_i h2
      rw [show ((w * 6 : Nat) : Int) = (w : Int) * 6 by omega]
      exact h3) h
    intro i hi
    have h3 := ht i hi
    by_cases c : i < q - a
    · rw [if_pos (by omega), h2 i c]
      congr 1
    · rw [if_neg (by omega)] at h3
      rw [if_neg (by omega)]
      exact h3
