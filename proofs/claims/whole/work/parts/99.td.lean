/-! text: clauses, and what a text comes to -/
abbrev TOK : Type := Int × Int × Nat
abbrev CLZ : Type := Int × Int × Int × List (Int × Int)
/-- a law, from a state on: (fault, place, items, what is left) -/
def LR (w : Int) (n : Nat) : List TOK → FR → List (Int × Int) → Bool → Bool → (Int × Int × List (Int × Int) × List TOK) → Prop
  | [], F, _, w1, aA, o => ∀ fa, LFt w F w1 aA 43 0 fa → o = (fa, (n : Int), [], [])
  | t :: T, F, L, w1, aA, o => (∀ F' L' w1' aA', LSt w F L w1 aA t.1 t.2.1 F' L' w1' aA' → LR w n T F' L' w1' aA' o) ∧ (∀ L', LEnd w F L w1 t.1 L' → o = (0, 0, L', T)) ∧ ∀ fa, LFt w F w1 aA t.1 t.2.1 fa → o = (fa, (t.2.2 : Int), [], [])
/-- the other clauses: bounds, and the word between -/
def dLo (w : Int) (p : Nat) : Int := if p = 0 then (if w = 5 then 1 else 0) else if w = 7 then 1 else 0
def dHi (w : Int) (p : Nat) : Int := if p = 0 then (if w = 4 then 11 else if w = 5 then 60 else if w = 8 then 9 else if w = 9 then 60 else 5) else if w = 7 then 60 else 5
def dLk (w : Int) : Int := if w = 4 ∨ w = 9 then 10 else if w = 7 then 11 else 41
def DSt (w : Int) (p : Nat) (x y k v x' y' : Int) : Prop := ((p = 0 ∧ x' = v ∧ y' = y ∨ p = 2 ∧ x' = x ∧ y' = v) ∧ k = 42 ∧ dLo w p ≤ v ∧ v ≤ dHi w p) ∨ (p = 1 ∧ k = dLk w ∧ k ≠ 41 ∧ x' = x ∧ y' = y)
def DEnd (w : Int) (p : Nat) (k : Int) : Prop := k = 41 ∧ (p = 3 ∨ (p = 1 ∧ dLk w = 41))
def DFt (w : Int) (p : Nat) (k v fa : Int) : Prop := ((p = 0 ∨ p = 2) ∧ ((k ≠ 42 ∧ fa = 1) ∨ (k = 42 ∧ (v < dLo w p ∨ dHi w p < v) ∧ fa = 2))) ∨ ((p = 1 ∧ k ≠ dLk w ∨ p = 3 ∧ k ≠ 41) ∧ fa = 1)
def DR (w : Int) (n : Nat) : List TOK → Nat → Int → Int → (Int × Int × Int × Int × List TOK) → Prop
  | [], p, _, _, o => ∀ fa, DFt w p 43 0 fa → o = (fa, (n : Int), 0, 0, [])
  | t :: T, p, x, y, o => (∀ x' y', DSt w p x y t.1 t.2.1 x' y' → DR w n T (p + 1) x' y' o) ∧ (DEnd w p t.1 → o = (0, 0, x, y, T)) ∧ ∀ fa, DFt w p t.1 t.2.1 fa → o = (fa, (t.2.2 : Int), 0, 0, [])
def hasW (w : Int) (D : List CLZ) : Prop := ∃ c ∈ D, c.1 = w
/-- what a text comes to: fault, place, clauses -/
def PR (n : Nat) : Nat → List TOK → List CLZ → (Int × Int × List CLZ) → Prop
  | 0, _, _, _ => False
  | _ + 1, [], D, R => R = (0, -1, D)
  | m + 1, t :: T, D, R => (9 < t.1 ∧ R = (1, (t.2.2 : Int), [])) ∨ (t.1 ≤ 3 ∧ hasW t.1 D ∧ R = (4, (t.2.2 : Int), [])) ∨ (t.1 ≤ 9 ∧ (t.1 ≤ 3 → ¬ hasW t.1 D) ∧ 24 ≤ D.length ∧ R = (6, (t.2.2 : Int), [])) ∨ (t.1 ≤ 3 ∧ ¬ hasW t.1 D ∧ D.length < 24 ∧ ∃ o, LR t.1 n T [(1, [])] [] true (decide (t.1 = 1)) o ∧ ((o.1 ≠ 0 ∧ R = (o.1, o.2.1, [])) ∨ (o.1 = 0 ∧ PR n m o.2.2.2 (D ++ [(t.1, 0, 0, o.2.2.1)]) R))) ∨ (4 ≤ t.1 ∧ t.1 ≤ 9 ∧ D.length < 24 ∧ ∃ o, DR t.1 n T 0 0 0 o ∧ ((o.1 ≠ 0 ∧ R = (o.1, o.2.1, [])) ∨ (o.1 = 0 ∧ PR n m o.2.2.2.2 (D ++ [(t.1, o.2.2.1, o.2.2.2.1, [])]) R)))
/-- tokens as they are read -/
def okTk (T : List TOK) : Prop := ∀ t ∈ T, 0 ≤ t.1 ∧ (t.1 ≤ 42 ∨ t.1 = 44) ∧ (t.1 = 42 → 0 ≤ t.2.1 ∧ t.2.1 ≤ 10000)
theorem okTk_c {t : TOK} {T : List TOK} (h : okTk (t :: T)) : (0 ≤ t.1 ∧ (t.1 ≤ 42 ∨ t.1 = 44) ∧ (t.1 = 42 → 0 ≤ t.2.1 ∧ t.2.1 ≤ 10000)) ∧ okTk T := ⟨h t (List.mem_cons_self ..), fun x hx => h x (List.mem_cons_of_mem _ hx)⟩
theorem LFt_n {w : Int} {F : FR} {w1 aA : Bool} {k v fa : Int} (h : LFt w F w1 aA k v fa) : fa ≠ 0 ∧ 1 ≤ fa ∧ fa ≤ 5 := by
  rcases h with h | h | h | h | h
  · have := h.2.2.2; omega
  · have := h.2.2.2; omega
  · have := h.2.2.2; omega
  · have := h.2.2.2.2.2.2; omega
  · have := h.2.1; omega
theorem DFt_n {w : Int} {p : Nat} {k v fa : Int} (h : DFt w p k v fa) : fa ≠ 0 := by
  unfold DFt at h
  omega
theorem DFt_p {w : Int} {p : Nat} {k v fa : Int} (h : DFt w p k v fa) : 0 ≤ fa := by
  unfold DFt at h
  omega
theorem DFt_x {w : Int} {p : Nat} {k v fa : Int} (h : DFt w p k v fa) : fa ≠ 0 := by
  rcases h with ⟨-, h | h⟩ | h
  · have := h.2; omega
  · have := h.2.2; omega
  · have := h.2; omega
theorem LEnd_43 {w : Int} {F : FR} {L : List (Int × Int)} {w1 : Bool} {L' : List (Int × Int)} (h : LEnd w F L w1 43 L') : False := by
  have := h.2.1
  omega
theorem LSt_43 {w : Int} {F : FR} {L : List (Int × Int)} {w1 aA : Bool} {v : Int} {F' : FR} {L' : List (Int × Int)} {w1' aA' : Bool} (h : LSt w F L w1 aA 43 v F' L' w1' aA') : False := by
  rcases h with h | h | h | h | h | h | h | h | h
  · have := h.2.1; omega
  · have := h.2.1; unfold isNm at this; omega
  · have := h.2.1; omega
  · have := h.2.1; omega
  · have := h.2.1; omega
  · have := h.2.1; omega
  · have := h.2.1; omega
  · have := h.2.1; unfold isR at this; omega
  · have := h.2.1; omega
theorem LSt_t {w : Int} {F : FR} {L : List (Int × Int)} {aA : Bool} {k v : Int} {F' : FR} {L' : List (Int × Int)} {w1' aA' : Bool} (s : LSt w F L true aA k v F' L' w1' aA') : (k = 42 ∧ v ≤ 9999) ∨ (isNm k ∧ okN w (nNo k)) ∨ ((k = 14 ∧ aA = true ∨ k = 39 ∨ k = 35) ∧ dep F < 8) := by
  rcases s with h | h | h | h | h | h | h | h | h
  · exact Or.inl ⟨h.2.1, h.2.2.1⟩
  · exact Or.inr (Or.inl ⟨h.2.1, h.2.2.1⟩)
  · exact Or.inr (Or.inr ⟨Or.inl ⟨h.2.1, h.2.2.1⟩, h.2.2.2.1⟩)
  · exact Or.inr (Or.inr ⟨Or.inr (Or.inl h.2.1), h.2.2.1⟩)
  · exact Or.inr (Or.inr ⟨Or.inr (Or.inr h.2.1), h.2.2.1⟩)
  · cases h.1
  · cases h.1
  · cases h.1
  · cases h.1
theorem LSt_f {w : Int} {F : FR} {L : List (Int × Int)} {aA : Bool} {k v : Int} {F' : FR} {L' : List (Int × Int)} {w1' aA' : Bool} (s : LSt w F L false aA k v F' L' w1' aA') : (k = 40 ∧ topF F = 39) ∨ (34 ≤ k ∧ k ≤ 38) ∨ (isR k ∧ topF F = 2) ∨ ((k = 12 ∨ k = 13) ∧ isR (topF F)) := by
  rcases s with h | h | h | h | h | h | h | h | h
  · cases h.1
  · cases h.1
  · cases h.1
  · cases h.1
  · cases h.1
  · obtain ⟨-, a, ws, G, e, -⟩ := h
    exact Or.inl ⟨a, by rw [e]; rfl⟩
  · exact Or.inr (Or.inl h.2.1)
  · obtain ⟨-, a, ws, G, e, -⟩ := h
    exact Or.inr (Or.inr (Or.inl ⟨a, by rw [e]; rfl⟩))
  · obtain ⟨-, a, x, ws, n, bs, hx, e, -⟩ := h
    exact Or.inr (Or.inr (Or.inr ⟨a, by rw [e]; exact hx⟩))
theorem LSt_F {w : Int} {F : FR} {L : List (Int × Int)} {w1 aA : Bool} {k v : Int} {F' : FR} {L' : List (Int × Int)} {w1' aA' : Bool} {fa : Int} (s : LSt w F L w1 aA k v F' L' w1' aA') (h : LFt w F w1 aA k v fa) : False := by
  cases w1 with
  | true =>
    rcases LSt_t s with ⟨a, b⟩ | ⟨a, b⟩ | ⟨a, b⟩
    · rcases h with h | h | h | h | h
      · have := h.2.2.1; omega
      · have := h.2.1; unfold isNm at this; omega
      · have := h.2.1; omega
      · exact h.2.1 a
      · cases h.1
    · rcases h with h | h | h | h | h
      · have := h.2.1; unfold isNm at a; omega
      · exact h.2.2.1 b
      · have := h.2.1; unfold isNm at a; omega
      · exact h.2.2.1 a
      · cases h.1
    · rcases h with h | h | h | h | h
      · have := h.2.1; omega
      · have := h.2.1; unfold isNm at this; omega
      · have := h.2.2.1; omega
      · rcases a with a | a | a
        · exact h.2.2.2.1 a
        · exact h.2.2.2.2.1 a
        · exact h.2.2.2.2.2.1 a
      · cases h.1
  | false =>
    rcases h with h | h | h | h | ⟨-, -, h1, h2, h3, h4, h5⟩
    · cases h.1
    · cases h.1
    · cases h.1
    · cases h.1
    · rcases LSt_f s with ⟨a, b⟩ | a | ⟨a, b⟩ | ⟨a, b⟩
      · exact h1 a b
      · exact h2 a
      · exact h3 a b
      · exact h4 a b
theorem LSt_E {w : Int} {F : FR} {L : List (Int × Int)} {w1 aA : Bool} {k v : Int} {F' : FR} {L' : List (Int × Int)} {w1' aA' : Bool} {L2 : List (Int × Int)} (s : LSt w F L w1 aA k v F' L' w1' aA') (h : LEnd w F L w1 k L2) : False := by
  obtain ⟨rfl, a, -⟩ := h
  rcases LSt_f s with b | b | b | b
  · omega
  · omega
  · have := b.1; unfold isR at this; omega
  · omega
theorem LEnd_F {w : Int} {F : FR} {L : List (Int × Int)} {w1 aA : Bool} {k v fa : Int} {L2 : List (Int × Int)} (s : LEnd w F L w1 k L2) (h : LFt w F w1 aA k v fa) : False := by
  obtain ⟨rfl, a, b⟩ := s
  rcases h with h | h | h | h | ⟨-, -, h1, h2, h3, h4, h5⟩
  · cases h.1
  · cases h.1
  · cases h.1
  · cases h.1
  · obtain ⟨h6, h7⟩ := h5 a
    rcases b with ⟨-, ws, e, -⟩ | ⟨x, ws, n, bs, hx, e, -⟩
    · exact h6 (by rw [e]; rfl)
    · exact h7 (by rw [e]; exact hx)
theorem LFt_det {w : Int} {F : FR} {w1 aA : Bool} {k v fa fb : Int} (s : LFt w F w1 aA k v fa) (h : LFt w F w1 aA k v fb) : fa = fb := by
  have q : ∀ {fa : Int}, LFt w F w1 aA k v fa → fa = if w1 = false then 1 else if k = 42 then 2 else if (k = 5 ∨ k = 8 ∨ (15 ≤ k ∧ k < 28)) then 5 else if ((k = 14 ∧ aA = true) ∨ k = 39 ∨ k = 35) then 3 else 1 := fun {fa} s => by
    rcases s with h | h | h | h | h
    · rw [if_neg (by rw [h.1]; decide), if_pos h.2.1]; exact h.2.2.2
    · have h2 := h.2.1
      rw [if_neg (by rw [h.1]; decide), if_neg (by unfold isNm at h2; omega), if_pos (by unfold isNm at h2; exact h2)]; exact h.2.2.2
    · have h2 := h.2.1
      rw [if_neg (by rw [h.1]; decide), if_neg (by omega), if_neg (by omega), if_pos h2]; exact h.2.2.2
    · obtain ⟨h1, h2, h3, h4, h5, h6, h7⟩ := h
      unfold isNm at h3
      rw [if_neg (by rw [h1]; decide), if_neg h2, if_neg h3, if_neg (fun e => e.elim h4 (fun e => e.elim h5 h6))]; exact h7
    · rw [if_pos h.1]; exact h.2.1
  rw [q s, q h]
theorem nts_inj {bs cs : List Int} : ∀ n m : Nat, nts n [(1, bs)] = nts m [(1, cs)] → n = m ∧ bs = cs
  | 0, 0, h => by
    injection h with h1 h2
    injection h1 with h3 h4
    exact ⟨rfl, h4⟩
  | 0, m + 1, h => by
    replace h : (1, bs) :: [] = (14, []) :: nts m [(1, cs)] := h
    injection h with h1 h2
    injection h1 with h3 h4
    omega
  | n + 1, 0, h => by
    replace h : (14, []) :: nts n [(1, bs)] = (1, cs) :: [] := h
    injection h with h1 h2
    injection h1 with h3 h4
    omega
  | n + 1, m + 1, h => by
    replace h : (14, []) :: nts n [(1, bs)] = (14, []) :: nts m [(1, cs)] := h
    injection h with h1 h2
    obtain ⟨a, b⟩ := nts_inj n m h2
    exact ⟨by omega, b⟩
theorem LEnd_det {w : Int} {F : FR} {L : List (Int × Int)} {w1 : Bool} {k : Int} {L1 L2 : List (Int × Int)} (s : LEnd w F L w1 k L1) (h : LEnd w F L w1 k L2) : L1 = L2 := by
  obtain ⟨-, -, s⟩ := s
  obtain ⟨-, -, h⟩ := h
  rcases s with ⟨-, ws, e, rfl⟩ | ⟨x, ws, n, bs, hx, e, rfl⟩
  · rcases h with ⟨-, us, e2, rfl⟩ | ⟨y, us, m, cs, hy, e2, rfl⟩
    · rw [e] at e2
      injection e2 with h1 h2
      injection h1 with h3 h4
      rw [h4]
    · rw [e] at e2
      injection e2 with h1 h2
      injection h1 with h3 h4
      unfold isR at hy
      omega
  · rcases h with ⟨-, us, e2, rfl⟩ | ⟨y, us, m, cs, hy, e2, rfl⟩
    · rw [e] at e2
      injection e2 with h1 h2
      injection h1 with h3 h4
      unfold isR at hx
      omega
    · rw [e] at e2
      injection e2 with h1 h2
      injection h1 with h3 h4
      obtain ⟨a, b⟩ := nts_inj _ _ h2
      rw [h3, h4, a, b]
/-- two steps are the same step -/
theorem LSt_det {w : Int} {F : FR} {L : List (Int × Int)} {w1 aA : Bool} {k v : Int} {F1 F2 : FR} {L1 L2 : List (Int × Int)} {w1' aA' w2' aB' : Bool} (s : LSt w F L w1 aA k v F1 L1 w1' aA') (h : LSt w F L w1 aA k v F2 L2 w2' aB') : F1 = F2 ∧ L1 = L2 ∧ w1' = w2' ∧ aA' = aB' := by
  rcases s with s | s | s | s | s | s | s | s | s
  · obtain ⟨rfl, a, b, rfl, rfl, rfl, rfl⟩ := s
    rcases h with h | h | h | h | h | h | h | h | h
    · obtain ⟨-, -, -, rfl, rfl, rfl, rfl⟩ := h
      exact ⟨rfl, rfl, rfl, rfl⟩
    · have := h.2.1; unfold isNm at this; omega
    · have := h.2.1; omega
    · have := h.2.1; omega
    · have := h.2.1; omega
    · cases h.1
    · cases h.1
    · cases h.1
    · cases h.1
  · obtain ⟨rfl, a, b, rfl, rfl, rfl, rfl⟩ := s
    rcases h with h | h | h | h | h | h | h | h | h
    · have := h.2.1; unfold isNm at a; omega
    · obtain ⟨-, -, -, rfl, rfl, rfl, rfl⟩ := h
      exact ⟨rfl, rfl, rfl, rfl⟩
    · have := h.2.1; unfold isNm at a; omega
    · have := h.2.1; unfold isNm at a; omega
    · have := h.2.1; unfold isNm at a; omega
    · cases h.1
    · cases h.1
    · cases h.1
    · cases h.1
  · obtain ⟨rfl, a, a2, b, rfl, rfl, rfl, rfl⟩ := s
    rcases h with h | h | h | h | h | h | h | h | h
    · have := h.2.1; omega
    · have := h.2.1; unfold isNm at this; omega
    · obtain ⟨-, -, -, -, rfl, rfl, rfl, rfl⟩ := h
      exact ⟨rfl, rfl, rfl, rfl⟩
    · have := h.2.1; omega
    · have := h.2.1; omega
    · cases h.1
    · cases h.1
    · cases h.1
    · cases h.1
  · obtain ⟨rfl, a, b, rfl, rfl, rfl, rfl⟩ := s
    rcases h with h | h | h | h | h | h | h | h | h
    · have := h.2.1; omega
    · have := h.2.1; unfold isNm at this; omega
    · have := h.2.1; omega
    · obtain ⟨-, -, -, rfl, rfl, rfl, rfl⟩ := h
      exact ⟨rfl, rfl, rfl, rfl⟩
    · have := h.2.1; omega
    · cases h.1
    · cases h.1
    · cases h.1
    · cases h.1
  · obtain ⟨rfl, a, b, rfl, rfl, rfl, rfl⟩ := s
    rcases h with h | h | h | h | h | h | h | h | h
    · have := h.2.1; omega
    · have := h.2.1; unfold isNm at this; omega
    · have := h.2.1; omega
    · have := h.2.1; omega
    · obtain ⟨-, -, -, rfl, rfl, rfl, rfl⟩ := h
      exact ⟨rfl, rfl, rfl, rfl⟩
    · cases h.1
    · cases h.1
    · cases h.1
    · cases h.1
  · obtain ⟨rfl, a, ws, G, rfl, rfl, rfl, rfl, rfl⟩ := s
    rcases h with h | h | h | h | h | h | h | h | h
    · cases h.1
    · cases h.1
    · cases h.1
    · cases h.1
    · cases h.1
    · obtain ⟨-, -, us, H, e, rfl, rfl, rfl, rfl⟩ := h
      injection e with h1 h2
      injection h1 with h3 h4
      rw [h2, h4]
      exact ⟨rfl, rfl, rfl, rfl⟩
    · have := h.2.1; omega
    · have := h.2.1; unfold isR at this; omega
    · have := h.2.1; omega
  · obtain ⟨rfl, a, x, ws, G, rfl, rfl, rfl, rfl, rfl⟩ := s
    rcases h with h | h | h | h | h | h | h | h | h
    · cases h.1
    · cases h.1
    · cases h.1
    · cases h.1
    · cases h.1
    · have := h.2.1; omega
    · obtain ⟨-, -, y, us, H, e, rfl, rfl, rfl, rfl⟩ := h
      injection e with h1 h2
      injection h1 with h3 h4
      rw [h2, h3, h4]
      exact ⟨rfl, rfl, rfl, rfl⟩
    · have := h.2.1; unfold isR at this; omega
    · have := h.2.1; omega
  · obtain ⟨rfl, a, ws, G, rfl, rfl, rfl, rfl, rfl⟩ := s
    rcases h with h | h | h | h | h | h | h | h | h
    · cases h.1
    · cases h.1
    · cases h.1
    · cases h.1
    · cases h.1
    · have := h.2.1; unfold isR at a; omega
    · have := h.2.1; unfold isR at a; omega
    · obtain ⟨-, -, us, H, e, rfl, rfl, rfl, rfl⟩ := h
      injection e with h1 h2
      injection h1 with h3 h4
      rw [h2, h4]
      exact ⟨rfl, rfl, rfl, rfl⟩
    · have := h.2.1; unfold isR at a; omega
  · obtain ⟨rfl, a, x, ws, n, bs, hx, rfl, rfl, rfl, rfl, rfl⟩ := s
    rcases h with h | h | h | h | h | h | h | h | h
    · cases h.1
    · cases h.1
    · cases h.1
    · cases h.1
    · cases h.1
    · have := h.2.1; omega
    · have := h.2.1; omega
    · have := h.2.1; unfold isR at this; omega
    · obtain ⟨-, -, y, us, m, cs, hy, e, rfl, rfl, rfl, rfl⟩ := h
      injection e with h1 h2
      injection h1 with h3 h4
      obtain ⟨q1, q2⟩ := nts_inj _ _ h2
      rw [q1, q2, h3, h4]
      exact ⟨rfl, rfl, rfl, rfl⟩
/-- a step goes on behind what is written already -/
theorem LSt_P {w : Int} {F : FR} {P L : List (Int × Int)} {w1 aA : Bool} {k v : Int} {F' : FR} {L2 : List (Int × Int)} {w1' aA' : Bool} (s : LSt w F (P ++ L) w1 aA k v F' L2 w1' aA') : ∃ L', L2 = P ++ L' ∧ LSt w F L w1 aA k v F' L' w1' aA' := by
  rcases s with s | s | s | s | s | s | s | s | s
  · obtain ⟨a, b, c, e, rfl, h⟩ := s
    exact ⟨_, by rw [List.append_assoc], Or.inl ⟨a, b, c, e, rfl, h⟩⟩
  · obtain ⟨a, b, c, e, rfl, h⟩ := s
    exact ⟨_, by rw [List.append_assoc], Or.inr (Or.inl ⟨a, b, c, e, rfl, h⟩)⟩
  · obtain ⟨a, b, c, e, f, rfl, h⟩ := s
    exact ⟨L, rfl, Or.inr (Or.inr (Or.inl ⟨a, b, c, e, f, rfl, h⟩))⟩
  · obtain ⟨a, b, c, e, rfl, h⟩ := s
    exact ⟨L, rfl, Or.inr (Or.inr (Or.inr (Or.inl ⟨a, b, c, e, rfl, h⟩)))⟩
  · obtain ⟨a, b, c, e, rfl, h⟩ := s
    exact ⟨L, rfl, Or.inr (Or.inr (Or.inr (Or.inr (Or.inl ⟨a, b, c, e, rfl, h⟩))))⟩
  · obtain ⟨a, b, ws, G, c, e, rfl, h⟩ := s
    exact ⟨_, by rw [List.append_assoc], Or.inr (Or.inr (Or.inr (Or.inr (Or.inr (Or.inl ⟨a, b, ws, G, c, e, rfl, h⟩)))))⟩
  · obtain ⟨a, b, x, ws, G, c, e, rfl, h⟩ := s
    exact ⟨_, by rw [List.append_assoc], Or.inr (Or.inr (Or.inr (Or.inr (Or.inr (Or.inr (Or.inl ⟨a, b, x, ws, G, c, e, rfl, h⟩))))))⟩
  · obtain ⟨a, b, ws, G, c, e, rfl, h⟩ := s
    exact ⟨_, by rw [List.append_assoc], Or.inr (Or.inr (Or.inr (Or.inr (Or.inr (Or.inr (Or.inr (Or.inl ⟨a, b, ws, G, c, e, rfl, h⟩)))))))⟩
  · obtain ⟨a, b, x, ws, n, bs, f, c, e, rfl, h⟩ := s
    exact ⟨_, by rw [List.append_assoc], Or.inr (Or.inr (Or.inr (Or.inr (Or.inr (Or.inr (Or.inr (Or.inr ⟨a, b, x, ws, n, bs, f, c, e, rfl, h⟩)))))))⟩
theorem LEnd_P {w : Int} {F : FR} {P L : List (Int × Int)} {w1 : Bool} {k : Int} {L2 : List (Int × Int)} (s : LEnd w F (P ++ L) w1 k L2) : ∃ L', L2 = P ++ L' ∧ LEnd w F L w1 k L' := by
  obtain ⟨a, b, s⟩ := s
  rcases s with ⟨c, ws, e, rfl⟩ | ⟨x, ws, n, bs, f, e, rfl⟩
  · exact ⟨_, by rw [List.append_assoc], a, b, Or.inl ⟨c, ws, e, rfl⟩⟩
  · exact ⟨_, by rw [List.append_assoc], a, b, Or.inr ⟨x, ws, n, bs, f, e, rfl⟩⟩
/-- a law comes to something, and what it comes to is well made -/
theorem LR_ex {w : Int} {n : Nat} : ∀ (T : List TOK) (F : FR) (L : List (Int × Int)) (w1 aA : Bool), okTk T → okM2 (decide (w = 1)) F w1 aA → dep F ≤ 8 → wfc w L [] (tyS w1 F) → ∃ o, LR w n T F L w1 aA o ∧ 0 ≤ o.1 ∧ (o.1 = 0 → okTk o.2.2.2 ∧ o.2.2.2.length < T.length ∧ wfc w o.2.2.1 [] [decide (w = 1)])
  | [], F, L, w1, aA, _, h, _, _ => by
    rcases LSt_ex (L := L) (k := 43) (v := 0) h (fun e => by omega) with ⟨_, _, _, _, s⟩ | ⟨_, s⟩ | ⟨fa, s⟩
    · exact (LSt_43 s).elim
    · exact (LEnd_43 s).elim
    · exact ⟨(fa, (n : Int), [], []), fun fb s' => by rw [LFt_det s s'], (by have := (LFt_n s).2.1; show 0 ≤ fa; omega), fun e => absurd e (LFt_n s).1⟩
  | t :: T, F, L, w1, aA, hT, h, hd, ht => by
    obtain ⟨⟨t1, t2, t3⟩, hT'⟩ := okTk_c hT
    have hv : t.1 = 42 → 0 ≤ t.2.1 := fun e => (t3 e).1
    rcases LSt_ex (L := L) (k := t.1) (v := t.2.1) h hv with ⟨F', L', w1', aA', s⟩ | ⟨L', s⟩ | ⟨fa, s⟩
    · obtain ⟨a, b, c⟩ := LSt_ok h hd ht hv s
      obtain ⟨o, ho, ho0, ho2⟩ := LR_ex (n := n) T F' L' w1' aA' hT' a b c
      refine ⟨o, ⟨fun F2 L2 w2 a2 s' => by
        obtain ⟨e1, e2, e3, e4⟩ := LSt_det s s'
        rw [← e1, ← e2, ← e3, ← e4]
        exact ho, fun L2 s' => (LSt_E s s').elim, fun fb s' => (LSt_F s s').elim⟩, ho0, fun e => ?_⟩
      obtain ⟨q1, q2, q3⟩ := ho2 e
      exact ⟨q1, by rw [List.length_cons]; omega, q3⟩
    · exact ⟨(0, 0, L', T), ⟨fun F2 L2 w2 a2 s' => (LSt_E s' s).elim, fun L2 s' => by rw [LEnd_det s s'], fun fb s' => (LEnd_F s s').elim⟩, Int.le_refl _, fun _ => ⟨hT', by show T.length < (t :: T).length; rw [List.length_cons]; omega, LEnd_ok h ht s⟩⟩
    · exact ⟨(fa, (t.2.2 : Int), [], []), ⟨fun F2 L2 w2 a2 s' => (LSt_F s' s).elim, fun L2 s' => (LEnd_F s' s).elim, fun fb s' => by rw [LFt_det s s']⟩, (by have := (LFt_n s).2.1; show 0 ≤ fa; omega), fun e => absurd e (LFt_n s).1⟩
theorem DFt_det {w : Int} {p : Nat} {k v fa fb : Int} (s : DFt w p k v fa) (h : DFt w p k v fb) : fa = fb := by
  unfold DFt at s h
  omega
theorem DSt_F {w : Int} {p : Nat} {x y k v x' y' fa : Int} (s : DSt w p x y k v x' y') (h : DFt w p k v fa) : False := by
  unfold DSt at s
  unfold DFt at h
  omega
theorem DSt_E {w : Int} {p : Nat} {x y k v x' y' : Int} (s : DSt w p x y k v x' y') (h : DEnd w p k) : False := by
  unfold DSt at s
  unfold DEnd at h
  omega
theorem DEnd_F {w : Int} {p : Nat} {k v fa : Int} (s : DEnd w p k) (h : DFt w p k v fa) : False := by
  unfold DEnd at s
  unfold DFt at h
  omega
theorem DSt_det {w : Int} {p : Nat} {x y k v x' y' x2 y2 : Int} (s : DSt w p x y k v x' y') (h : DSt w p x y k v x2 y2) : x' = x2 ∧ y' = y2 := by
  unfold DSt at s h
  omega
theorem DR_ex {w : Int} {n : Nat} (hw : 4 ≤ w ∧ w ≤ 9) : ∀ (T : List TOK) (p : Nat) (x y : Int), okTk T → p ≤ 3 → (p = 2 ∨ p = 3 → dLk w ≠ 41) → (0 ≤ x ∧ x ≤ 60) → ∃ o, DR w n T p x y o ∧ 0 ≤ o.1 ∧ (o.1 = 0 → okTk o.2.2.2.2 ∧ o.2.2.2.2.length < T.length ∧ 0 ≤ o.2.2.1 ∧ o.2.2.1 ≤ 60)
  | [], p, x, y, _, hp, _, _ => by
    have : ∃ fa, DFt w p 43 0 fa := by
      rcases (show p = 0 ∨ p = 1 ∨ p = 2 ∨ p = 3 by omega) with e | e | e | e
      · exact ⟨1, Or.inl ⟨Or.inl e, Or.inl ⟨by decide, rfl⟩⟩⟩
      · exact ⟨1, Or.inr ⟨Or.inl ⟨e, by unfold dLk; split <;> (try split) <;> decide⟩, rfl⟩⟩
      · exact ⟨1, Or.inl ⟨Or.inr e, Or.inl ⟨by decide, rfl⟩⟩⟩
      · exact ⟨1, Or.inr ⟨Or.inr ⟨e, by decide⟩, rfl⟩⟩
    obtain ⟨fa, s⟩ := this
    exact ⟨(fa, (n : Int), 0, 0, []), fun fb s' => by rw [DFt_det s s'], DFt_p s, fun e => absurd e (DFt_n s)⟩
  | t :: T, p, x, y, hT, hp, hl, hx => by
    obtain ⟨⟨t1, t2, t3⟩, hT'⟩ := okTk_c hT
    have hfin : ∀ fa, DFt w p t.1 t.2.1 fa → ∃ o, DR w n (t :: T) p x y o ∧ 0 ≤ o.1 ∧ (o.1 = 0 → okTk o.2.2.2.2 ∧ o.2.2.2.2.length < (t :: T).length ∧ 0 ≤ o.2.2.1 ∧ o.2.2.1 ≤ 60) := fun fa s => ⟨(fa, (t.2.2 : Int), 0, 0, []), ⟨fun _ _ s' => (DSt_F s' s).elim, fun s' => (DEnd_F s' s).elim, fun fb s' => by rw [DFt_det s s']⟩, DFt_p s, fun e => absurd e (DFt_n s)⟩
    have hend : DEnd w p t.1 → ∃ o, DR w n (t :: T) p x y o ∧ 0 ≤ o.1 ∧ (o.1 = 0 → okTk o.2.2.2.2 ∧ o.2.2.2.2.length < (t :: T).length ∧ 0 ≤ o.2.2.1 ∧ o.2.2.1 ≤ 60) := fun s => ⟨(0, 0, x, y, T), ⟨fun _ _ s' => (DSt_E s' s).elim, fun _ => rfl, fun fb s' => (DEnd_F s s').elim⟩, Int.le_refl _, fun _ => ⟨hT', by show T.length < (t :: T).length; rw [List.length_cons]; omega, hx.1, hx.2⟩⟩
    have hst : ∀ x' y', DSt w p x y t.1 t.2.1 x' y' → p < 3 → (p + 1 = 2 → dLk w ≠ 41) → (p + 1 = 3 → dLk w ≠ 41) → (0 ≤ x' ∧ x' ≤ 60) → ∃ o, DR w n (t :: T) p x y o ∧ 0 ≤ o.1 ∧ (o.1 = 0 → okTk o.2.2.2.2 ∧ o.2.2.2.2.length < (t :: T).length ∧ 0 ≤ o.2.2.1 ∧ o.2.2.1 ≤ 60) := fun x' y' s p3 l2 l3 hx' => by
      obtain ⟨o, ho, ho0, ho2⟩ := DR_ex (n := n) hw T (p + 1) x' y' hT' (by omega) (fun q => q.elim l2 l3) hx'
      refine ⟨o, ⟨fun x2 y2 s' => by
        obtain ⟨e1, e2⟩ := DSt_det s s'
        rw [← e1, ← e2]
        exact ho, fun s' => (DSt_E s s').elim, fun fb s' => (DSt_F s s').elim⟩, ho0, fun e => ?_⟩
      obtain ⟨q1, q2, q3⟩ := ho2 e
      exact ⟨q1, by rw [List.length_cons]; omega, q3⟩
    by_cases c0 : p = 0 ∨ p = 2
    · by_cases c1 : t.1 = 42
      · by_cases c2 : dLo w p ≤ t.2.1 ∧ t.2.1 ≤ dHi w p
        · rcases c0 with c0 | c0
          · refine hst t.2.1 y (Or.inl ⟨Or.inl ⟨c0, rfl, rfl⟩, c1, c2.1, c2.2⟩) (by omega) (fun e => by omega) (fun e => by omega) ?_
            have c3 := c2.1
            have c4 := c2.2
            unfold dLo at c3
            unfold dHi at c4
            rw [if_pos c0] at c3 c4
            constructor
            · split at c3 <;> omega
            · repeat' split at c4
              all_goals omega
          · exact hst x t.2.1 (Or.inl ⟨Or.inr ⟨c0, rfl, rfl⟩, c1, c2.1, c2.2⟩) (by omega) (fun e => by omega) (fun _ => hl (Or.inl c0)) hx
        · exact hfin 2 (Or.inl ⟨c0, Or.inr ⟨c1, by omega, rfl⟩⟩)
      · exact hfin 1 (Or.inl ⟨c0, Or.inl ⟨c1, rfl⟩⟩)
    · by_cases c1 : p = 1
      · by_cases c2 : t.1 = dLk w
        · by_cases c3 : dLk w = 41
          · exact hend ⟨by rw [c2, c3], Or.inr ⟨c1, c3⟩⟩
          · exact hst x y (Or.inr ⟨c1, c2, by rw [c2]; exact c3, rfl, rfl⟩) (by omega) (fun _ => c3) (fun e => by omega) hx
        · exact hfin 1 (Or.inr ⟨Or.inl ⟨c1, c2⟩, rfl⟩)
      · by_cases c2 : t.1 = 41
        · exact hend ⟨c2, Or.inl (by omega)⟩
        · exact hfin 1 (Or.inr ⟨Or.inr ⟨by omega, c2⟩, rfl⟩)
/-- a clause as it should be -/
def okC (c : CLZ) : Prop := 0 ≤ c.1 ∧ c.1 ≤ 9 ∧ (4 ≤ c.1 → 0 ≤ c.2.1 ∧ c.2.1 ≤ 60) ∧ (c.1 ≤ 3 → wfc c.1 c.2.2.2 [] [decide (c.1 = 1)])
def okD (D : List CLZ) : Prop := D.length ≤ 24 ∧ (∀ c ∈ D, okC c) ∧ ∀ w, w ≤ 3 → ∀ i j : Nat, ∀ c e, D[i]? = some c → D[j]? = some e → c.1 = w → e.1 = w → i = j
theorem okD_s {D : List CLZ} {c : CLZ} (h : okD D) (hl : D.length < 24) (hc : okC c) (hn : c.1 ≤ 3 → ¬ hasW c.1 D) : okD (D ++ [c]) := by
  refine ⟨by rw [List.length_append, List.length_singleton]; omega, fun e he => ?_, fun w hw i j a b ha hb ea eb => ?_⟩
  · rcases List.mem_append.mp he with q | q
    · exact h.2.1 e q
    · rw [List.mem_singleton.mp q]; exact hc
  · have key : ∀ (i : Nat) (a : CLZ), (D ++ [c])[i]? = some a → (i < D.length ∧ D[i]? = some a) ∨ (i = D.length ∧ a = c) := fun i a ha => by
      by_cases g : i < D.length
      · rw [List.getElem?_append_left g] at ha
        exact Or.inl ⟨g, ha⟩
      · rw [List.getElem?_append_right (by omega)] at ha
        obtain ⟨g1, g2⟩ := List.getElem?_eq_some_iff.mp ha
        rw [List.length_singleton] at g1
        right
        refine ⟨by omega, ?_⟩
        rw [← g2]
        simp
    have no : ∀ (i : Nat) (a : CLZ), D[i]? = some a → a.1 = w → c.1 = w → False := fun i a ha ea ec => hn (by omega) ⟨a, List.mem_of_getElem? ha, by rw [ea, ec]⟩
    rcases key i a ha with ⟨i1, i2⟩ | ⟨i1, i2⟩
    · rcases key j b hb with ⟨j1, j2⟩ | ⟨j1, j2⟩
      · exact h.2.2 w hw i j a b i2 j2 ea eb
      · subst j2
        exact (no i a i2 ea eb).elim
    · rcases key j b hb with ⟨j1, j2⟩ | ⟨j1, j2⟩
      · subst i2
        exact (no j b j2 eb ea).elim
      · omega
theorem ok0 {w : Int} : okM2 (decide (w = 1)) [(1, [])] true (decide (w = 1)) ∧ dep [(1, [])] ≤ 8 ∧ wfc w [] [] (tyS true [(1, [])]) := by
  refine ⟨⟨⟨rfl, fun _ => Or.inl rfl, fun _ => Or.inl rfl⟩, fun _ e => Or.inr ⟨rfl, e⟩, fun _ e => Or.inr (Or.inr (Or.inr (Or.inr ⟨rfl, e⟩))), fun e => by cases e⟩, by decide, ?_⟩
  show [] = ty [(1, [])]
  rfl
theorem PR_ex {n : Nat} : ∀ (m : Nat) (T : List TOK) (D : List CLZ), T.length < m → okTk T → okD D → ∃ R, PR n m T D R ∧ 0 ≤ R.1 ∧ (R.1 = 0 → okD R.2.2)
  | 0, T, D, h, _, _ => by omega
  | m + 1, [], D, _, _, hD => ⟨_, rfl, Int.le_refl _, fun _ => hD⟩
  | m + 1, t :: T, D, hl, hT, hD => by
    rw [List.length_cons] at hl
    obtain ⟨⟨t1, t2, t3⟩, hT'⟩ := okTk_c hT
    by_cases c1 : 9 < t.1
    · exact ⟨_, Or.inl ⟨c1, rfl⟩, (show (0 : Int) ≤ 1 by decide), fun e => absurd e (show ¬ (1 : Int) = 0 by decide)⟩
    · by_cases c2 : t.1 ≤ 3 ∧ hasW t.1 D
      · exact ⟨_, Or.inr (Or.inl ⟨c2.1, c2.2, rfl⟩), (show (0 : Int) ≤ 4 by decide), fun e => absurd e (show ¬ (4 : Int) = 0 by decide)⟩
      · by_cases c3 : 24 ≤ D.length
        · exact ⟨_, Or.inr (Or.inr (Or.inl ⟨by omega, fun a b => c2 ⟨a, b⟩, c3, rfl⟩)), (show (0 : Int) ≤ 6 by decide), fun e => absurd e (show ¬ (6 : Int) = 0 by decide)⟩
        · by_cases c4 : t.1 ≤ 3
          · obtain ⟨o, ho, ho0, ho2⟩ := LR_ex (w := t.1) (n := n) T [(1, [])] [] true (decide (t.1 = 1)) hT' (ok0 (w := t.1)).1 (ok0 (w := t.1)).2.1 (ok0 (w := t.1)).2.2
            by_cases c5 : o.1 = 0
            · obtain ⟨q1, q2, q3⟩ := ho2 c5
              obtain ⟨R, hR, hR2⟩ := PR_ex (n := n) m o.2.2.2 (D ++ [(t.1, 0, 0, o.2.2.1)]) (by omega) q1 (okD_s hD (by omega) ⟨t1, by omega, fun e => (by have : 4 ≤ t.1 := e; omega), fun _ => q3⟩ (fun _ e => c2 ⟨c4, e⟩))
              exact ⟨R, Or.inr (Or.inr (Or.inr (Or.inl ⟨c4, fun e => c2 ⟨c4, e⟩, by omega, o, ho, Or.inr ⟨c5, hR⟩⟩))), hR2⟩
            · exact ⟨_, Or.inr (Or.inr (Or.inr (Or.inl ⟨c4, fun e => c2 ⟨c4, e⟩, by omega, o, ho, Or.inl ⟨c5, rfl⟩⟩))), ho0, fun e => absurd e c5⟩
          · obtain ⟨o, ho, ho0, ho2⟩ := DR_ex (w := t.1) (n := n) ⟨by omega, by omega⟩ T 0 0 0 hT' (by omega) (fun e => by omega) ⟨by omega, by omega⟩
            by_cases c5 : o.1 = 0
            · obtain ⟨q1, q2, q3⟩ := ho2 c5
              obtain ⟨R, hR, hR2⟩ := PR_ex (n := n) m o.2.2.2.2 (D ++ [(t.1, o.2.2.1, o.2.2.2.1, [])]) (by omega) q1 (okD_s hD (by omega) ⟨t1, by show t.1 ≤ 9; omega, fun _ => q3, fun e => absurd e c4⟩ (fun e => absurd e c4))
              exact ⟨R, Or.inr (Or.inr (Or.inr (Or.inr ⟨by omega, by omega, by omega, o, ho, Or.inr ⟨c5, hR⟩⟩))), hR2⟩
            · exact ⟨_, Or.inr (Or.inr (Or.inr (Or.inr ⟨by omega, by omega, by omega, o, ho, Or.inl ⟨c5, rfl⟩⟩))), ho0, fun e => absurd e c5⟩
