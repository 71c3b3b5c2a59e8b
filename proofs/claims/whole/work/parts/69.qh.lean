/-! orders of armies: numbers by places, and lists -/
def facN : Nat → Nat
  | 0 => 1
  | n + 1 => facN n * (n + 1)
theorem facN_p : ∀ n, 0 < facN n
  | 0 => by decide
  | n + 1 => Nat.mul_pos (facN_p n) (by omega)
/-- how many of those below k have not been sent -/
def unS (u : Int) : Nat → Nat
  | 0 => 0
  | k + 1 => unS u k + (if iAnd (iShr u k) 1 = 1 then 0 else 1)
theorem unS_s {u : Int} {k : Nat} : unS u (k + 1) = unS u k + (if iAnd (iShr u k) 1 = 1 then 0 else 1) := rfl
theorem unS_m {u : Int} {j : Nat} : ∀ k : Nat, j ≤ k → unS u j ≤ unS u k
  | 0, h => by rw [show j = 0 by omega]; exact Nat.le_refl _
  | k + 1, h => by
    by_cases c : j = k + 1
    · rw [c]; exact Nat.le_refl _
    · have := unS_m (u := u) (j := j) k (by omega)
      rw [unS_s]
      omega
theorem unS_lt {u : Int} {j k : Nat} (h : j < k) (hb : iAnd (iShr u j) 1 ≠ 1) : unS u j < unS u k := by
  have := unS_m (u := u) k (show j + 1 ≤ k by omega)
  rw [unS_s, if_neg hb] at this
  omega
theorem set_b : ∀ u : Nat, u < 64 → ∀ j : Nat, j < 6 → (0 ≤ iOr (u : Int) (iShl 1 (j : Int)) ∧ iOr (u : Int) (iShl 1 (j : Int)) < 64) ∧ ∀ i : Nat, i < 6 → iAnd (iShr (iOr (u : Int) (iShl 1 (j : Int))) (i : Int)) 1 = if i = j then 1 else iAnd (iShr (u : Int) (i : Int)) 1 := by decide +kernel
theorem set_R {u : Int} {j : Nat} (hu : 0 ≤ u ∧ u < 64) (hj : j < 6) : 0 ≤ iOr u (iShl 1 (j : Int)) ∧ iOr u (iShl 1 (j : Int)) < 64 := by
  obtain ⟨v, rfl⟩ := Int.eq_ofNat_of_zero_le hu.1
  exact (set_b v (by omega) j hj).1
theorem set_at {u : Int} {j i : Nat} (hu : 0 ≤ u ∧ u < 64) (hj : j < 6) (hi : i < 6) : iAnd (iShr (iOr u (iShl 1 (j : Int))) (i : Int)) 1 = if i = j then 1 else iAnd (iShr u (i : Int)) 1 := by
  obtain ⟨v, rfl⟩ := Int.eq_ofNat_of_zero_le hu.1
  exact (set_b v (by omega) j hj).2 i hi
theorem unS_set {u : Int} {j : Nat} (hu : 0 ≤ u ∧ u < 64) (hj : j < 6) (hb : iAnd (iShr u (j : Int)) 1 ≠ 1) : ∀ i : Nat, i ≤ 6 → unS (iOr u (iShl 1 (j : Int))) i + (if j < i then 1 else 0) = unS u i
  | 0, _ => rfl
  | i + 1, h => by
    have ih := unS_set hu hj hb i (by omega)
    rw [unS_s, unS_s, set_at hu hj (by omega)]
    by_cases c : i = j
    · subst c
      rw [if_neg (by omega)] at ih
      rw [if_pos rfl, if_pos rfl, if_neg hb, if_pos (by omega)]
      omega
    · rw [if_neg c]
      by_cases c2 : j < i
      · rw [if_pos c2] at ih
        rw [if_pos (show j < i + 1 by omega)]
        omega
      · rw [if_neg c2] at ih
        rw [if_neg (show ¬ (j < i + 1) by omega)]
        omega
/-- all orders of those that have not been sent -/
def pmB (g : Int → List (List Nat)) (u : Int) : Nat → List (List Nat)
  | 0 => []
  | i + 1 => pmB g u i ++ (if iAnd (iShr u i) 1 = 1 then [] else (g (iOr u (iShl 1 i))).map (fun l => i :: l))
theorem pmB_s {g : Int → List (List Nat)} {u : Int} {i : Nat} : pmB g u (i + 1) = pmB g u i ++ (if iAnd (iShr u i) 1 = 1 then [] else (g (iOr u (iShl 1 i))).map (fun l => i :: l)) := rfl
def pmS (n : Nat) : Nat → Int → List (List Nat)
  | 0, _ => [[]]
  | f + 1, u => pmB (pmS n f) u n
theorem pmB_len {g : Int → List (List Nat)} {u : Int} {F n : Nat} (hg : ∀ j, j < n → iAnd (iShr u (j : Int)) 1 ≠ 1 → (g (iOr u (iShl 1 (j : Int)))).length = F) : ∀ i, i ≤ n → (pmB g u i).length = unS u i * F
  | 0, _ => by simp [pmB, unS]
  | i + 1, h => by
    rw [pmB_s, List.length_append, pmB_len hg i (by omega), unS_s]
    by_cases c : iAnd (iShr u (i : Int)) 1 = 1
    · rw [if_pos c, if_pos c]; rfl
    · rw [if_neg c, if_neg c, List.length_map, hg i (by omega) c, Nat.add_mul, Nat.one_mul]
theorem pm_len {n : Nat} (hn : n ≤ 6) : ∀ (f : Nat) (u : Int), 0 ≤ u ∧ u < 64 → unS u n = f → (pmS n f u).length = facN f
  | 0, _, _, _ => rfl
  | f + 1, u, hu, hf => by
    have : (pmB (pmS n f) u n).length = unS u n * facN f := pmB_len (fun j hj hb => pm_len hn f _ (set_R hu (by omega)) (by
      have := unS_set hu (by omega) hb n (by omega)
      rw [if_pos hj] at this
      omega)) n (Nat.le_refl _)
    show (pmB (pmS n f) u n).length = facN f * (f + 1)
    rw [this, hf, Nat.mul_comm]
theorem pmB_at {g : Int → List (List Nat)} {u : Int} {F n num : Nat} (hF : 0 < F) (hg : ∀ j, j < n → iAnd (iShr u (j : Int)) 1 ≠ 1 → (g (iOr u (iShl 1 (j : Int)))).length = F) : ∀ i, i ≤ n → num < unS u i * F → ∃ j, j < i ∧ iAnd (iShr u (j : Int)) 1 ≠ 1 ∧ unS u j = num / F ∧ (pmB g u i).getD num [] = j :: (g (iOr u (iShl 1 (j : Int)))).getD (num % F) []
  | 0, _, h => by simp [unS] at h
  | i + 1, h, hl => by
    have hlen := pmB_len hg i (by omega)
    rw [pmB_s]
    by_cases c : num < unS u i * F
    · obtain ⟨j, h1, h2, h3, h4⟩ := pmB_at hF hg i (by omega) c
      refine ⟨j, by omega, h2, h3, ?_⟩
      rw [List.getD_eq_getElem?_getD, List.getElem?_append_left (by omega), ← List.getD_eq_getElem?_getD, h4]
    · rw [unS_s] at hl
      by_cases cb : iAnd (iShr u (i : Int)) 1 = 1
      · rw [if_pos cb] at hl
        exact absurd hl c
      · rw [if_neg cb, Nat.add_mul, Nat.one_mul] at hl
        have hgi := hg i (by omega) cb
        have e0 : num = unS u i * F + (num - unS u i * F) := by omega
        have e1 : num / F = unS u i := by
          rw [e0, Nat.mul_comm, Nat.mul_add_div hF, Nat.div_eq_of_lt (by rw [Nat.mul_comm]; omega)]; omega
        have e2 : num % F = num - unS u i * F := by
          have := Nat.div_add_mod num F
          rw [e1, Nat.mul_comm] at this
          omega
        refine ⟨i, by omega, cb, e1.symm, ?_⟩
        rw [List.getD_eq_getElem?_getD, List.getElem?_append_right (by omega), ← List.getD_eq_getElem?_getD, hlen, if_neg cb, e2]
        have hx : num - unS u i * F < (g (iOr u (iShl 1 (i : Int)))).length := by omega
        rw [List.getD_eq_getElem?_getD, List.getD_eq_getElem?_getD, List.getElem?_map, List.getElem?_eq_getElem hx]
        rfl
theorem pm_at {n f num : Nat} {u : Int} (hn : n ≤ 6) (hu : 0 ≤ u ∧ u < 64) (hf : unS u n = f + 1) (hl : num < facN (f + 1)) : ∃ j, j < n ∧ iAnd (iShr u (j : Int)) 1 ≠ 1 ∧ unS u j = num / facN f ∧ unS (iOr u (iShl 1 (j : Int))) n = f ∧ (pmS n (f + 1) u).getD num [] = j :: (pmS n f (iOr u (iShl 1 (j : Int)))).getD (num % facN f) [] := by
  have hs : ∀ j, j < n → iAnd (iShr u (j : Int)) 1 ≠ 1 → unS (iOr u (iShl 1 (j : Int))) n = f := fun j hj hb => by
    have := unS_set hu (by omega) hb n (by omega)
    rw [if_pos hj] at this
    omega
  obtain ⟨j, h1, h2, h3, h4⟩ := pmB_at (g := pmS n f) (n := n) (facN_p f) (fun j hj hb => pm_len hn f _ (set_R hu (by omega)) (hs j hj hb)) n (Nat.le_refl _) (show num < unS u n * facN f by rw [hf, Nat.mul_comm]; exact hl)
  exact ⟨j, h1, h2, h3, hs j h1 h2, h4⟩
/-- safe as it is sent -/
def sfL (w : Nat → Int) (p s : Int) : Int → List Nat → Bool
  | _, [] => true
  | m, i :: l => decide ((m + w i) * p % s ≠ 0) && sfL w p s (m + w i) l
def spB (w : Nat → Int) (p s : Int) (g : Int → Int → List (List Nat)) (u m : Int) : Nat → List (List Nat)
  | 0 => []
  | i + 1 => spB w p s g u m i ++ (if iAnd (iShr u i) 1 = 1 ∨ (m + w i) * p % s = 0 then [] else (g (iOr u (iShl 1 i)) (m + w i)).map (fun l => i :: l))
def spS (w : Nat → Int) (p s : Int) (n : Nat) : Nat → Int → Int → List (List Nat)
  | 0, _, _ => [[]]
  | f + 1, u, m => spB w p s (spS w p s n f) u m n
theorem sp_pmB {w : Nat → Int} {p s : Int} {g : Int → List (List Nat)} {g2 : Int → Int → List (List Nat)} (hg : ∀ u m, g2 u m = (g u).filter (sfL w p s m)) {u m : Int} : ∀ n : Nat, spB w p s g2 u m n = (pmB g u n).filter (sfL w p s m)
  | 0 => rfl
  | n + 1 => by
    unfold spB pmB
    rw [List.filter_append, sp_pmB hg n]
    congr 1
    by_cases c : iAnd (iShr u n) 1 = 1
    · rw [if_pos c, if_pos (Or.inl c)]
      rfl
    · rw [if_neg c, hg]
      by_cases c2 : (m + w n) * p % s = 0
      · rw [if_pos (Or.inr c2), List.filter_map]
        have : (g (iOr u (iShl 1 n))).filter (sfL w p s m ∘ fun l => n :: l) = [] := by
          rw [List.filter_eq_nil_iff]
          intro l _
          simp [sfL, c2]
        rw [this]
        rfl
      · rw [if_neg (by simp [c, c2]), List.filter_map]
        congr 2
        funext l
        simp [sfL, c2]
theorem sp_pm {w : Nat → Int} {p s : Int} {n : Nat} : ∀ (f : Nat) (u m : Int), spS w p s n f u m = (pmS n f u).filter (sfL w p s m)
  | 0, _, _ => rfl
  | f + 1, u, m => sp_pmB (fun u m => sp_pm f u m) n
/-- how many, and the first -/
theorem cn_fil {p : List Nat → Bool} {L : List (List Nat)} : ∀ k : Nat, k ≤ L.length → cn (fun i => if p (L.getD i []) then 1 else 0) k = ((L.take k).filter p).length
  | 0, _ => by simp [cn]
  | k + 1, h => by
    have ih := cn_fil (p := p) (L := L) k (by omega)
    have e : L.getD k [] = L[k] := by rw [List.getD_eq_getElem?_getD, List.getElem?_eq_getElem (by omega)]; rfl
    rw [cn_s, ih, List.take_succ, List.getElem?_eq_getElem (by omega), List.filter_append, List.length_append]
    congr 1
    simp only [e, Option.toList]
    cases hp : p L[k] <;> simp [hp]
theorem fil_hd {p : List Nat → Bool} {L : List (List Nat)} {k : Nat} (hk : k < L.length) (h0 : cn (fun i => if p (L.getD i []) then 1 else 0) k = 0) (h1 : p (L.getD k []) = true) : (L.filter p).head? = some (L.getD k []) := by
  have e : L.getD k [] = L[k] := by rw [List.getD_eq_getElem?_getD, List.getElem?_eq_getElem hk]; rfl
  rw [cn_fil k (by omega)] at h0
  rw [e] at h1 ⊢
  have h2 : L.filter p = (L.take k).filter p ++ (L[k] :: L.drop (k + 1)).filter p := by
    rw [← List.filter_append, ← List.drop_eq_getElem_cons hk, List.take_append_drop]
  have h3 : (L.take k).filter p = [] := List.length_eq_zero_iff.mp h0
  rw [h2, h3, List.nil_append, List.filter_cons_of_pos h1]
  rfl
