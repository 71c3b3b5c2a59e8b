/-! text: a step keeps shape and types -/
theorem aw_2 {ws : List Int} (h : aw ws) : ws.length ≤ 2 ∧ ∀ k ∈ ws, 34 ≤ k ∧ k ≤ 38 := by
  rcases h with rfl | ⟨a, ha, rfl⟩ | ⟨m, hm, rfl⟩ | ⟨m, a, hm, ha, rfl⟩
  · exact ⟨by decide, fun k hk => by cases hk⟩
  · refine ⟨by simp, fun k hk => ?_⟩
    rw [List.mem_singleton] at hk
    omega
  · refine ⟨by simp, fun k hk => ?_⟩
    rw [List.mem_singleton] at hk
    omega
  · refine ⟨by simp, fun k hk => ?_⟩
    rcases List.mem_cons.mp hk with e | e
    · omega
    · rw [List.mem_singleton] at e
      omega
theorem bw_2 {ws : List Int} (h : bw ws) : ws.length ≤ 2 ∧ ∀ k ∈ ws, k = 12 ∨ k = 13 := by
  rcases h with rfl | rfl | rfl | rfl
  · exact ⟨by decide, fun k hk => by cases hk⟩
  · exact ⟨by decide, fun k hk => Or.inl (List.mem_singleton.mp hk)⟩
  · exact ⟨by decide, fun k hk => Or.inr (List.mem_singleton.mp hk)⟩
  · refine ⟨by decide, fun k hk => ?_⟩
    rcases List.mem_cons.mp hk with e | e
    · exact Or.inr e
    · exact Or.inl (List.mem_singleton.mp e)
/-- the waits of a frame -/
theorem okF_2 {tn : Bool} {x : Int} {ws : List Int} : ∀ {F : FR}, okF tn ((x, ws) :: F) → ws.length ≤ 2 ∧ ∀ k ∈ ws, isWt k ∧ k ≠ 39 ∧ k ≠ 45 ∧ k ≠ 14
  | [], h => by
    obtain ⟨-, h1, h2⟩ := h
    cases tn with
    | true =>
      obtain ⟨a, b⟩ := bw_2 (h1 rfl)
      exact ⟨a, fun k hk => by have := b k hk; unfold isWt; omega⟩
    | false =>
      obtain ⟨a, b⟩ := aw_2 (h2 rfl)
      exact ⟨a, fun k hk => by have := b k hk; unfold isWt; omega⟩
  | (y, us) :: F, h => by
    have h0 : ws = [] → ws.length ≤ 2 ∧ ∀ k ∈ ws, isWt k ∧ k ≠ 39 ∧ k ≠ 45 ∧ k ≠ 14 := fun e => by
      subst e
      exact ⟨by decide, fun k hk => by cases hk⟩
    have h1 : aw ws → ws.length ≤ 2 ∧ ∀ k ∈ ws, isWt k ∧ k ≠ 39 ∧ k ≠ 45 ∧ k ≠ 14 := fun e => by
      obtain ⟨a, b⟩ := aw_2 e
      exact ⟨a, fun k hk => by have := b k hk; unfold isWt; omega⟩
    rcases h.2 with q | q | q | q
    · exact h0 q.2.1
    · exact h1 q.2.1
    · exact h1 q.2.1
    · exact h0 q.2.1
theorem ty_len {tn : Bool} : ∀ F : FR, okF tn F → (ty F).length ≤ 3 * F.length
  | [], h => h.elim
  | [(x, ws)], h => by
    have h2 := (okF_2 h).1
    show (tw ws ++ ((if 28 ≤ x ∧ x ≤ 33 then [false] else []) ++ [])).length ≤ 3 * 1
    rw [List.append_nil, List.length_append, tw, List.length_map]
    split <;> simp <;> omega
  | (x, ws) :: (y, us) :: F, h => by
    have ih := ty_len ((y, us) :: F) h.1
    have h2 := (okF_2 h).1
    show (tw ws ++ ((if 28 ≤ x ∧ x ≤ 33 then [false] else []) ++ ty ((y, us) :: F))).length ≤ 3 * (((y, us) :: F).length + 1)
    rw [List.length_append, List.length_append, tw, List.length_map]
    split <;> simp only [List.length_singleton, List.length_nil] <;> omega
theorem okF_aw {tn : Bool} {x : Int} {ws : List Int} : ∀ {F : FR}, okF tn ((x, ws) :: F) → arB tn x → x ≠ 45 → aw ws
  | [], h, g, _ => by
    have hx := h.1
    unfold arB isR at g
    rcases g with g | g | g | g | g
    · omega
    · omega
    · omega
    · omega
    · exact h.2.2 g.2
  | (y, us) :: F, h, g, c => by
    rcases h.2 with q | q | q | q
    · exfalso
      have := q.1
      unfold arB isR at g
      rcases g with g | g | g | g | g
      · omega
      · omega
      · omega
      · omega
      · have := g.1; omega
    · exact q.2.1
    · exact q.2.1
    · exact absurd q.1 c
/-- other waits in the top frame -/
theorem okF_put {tn : Bool} {x : Int} {ws us : List Int} : ∀ {F : FR}, okF tn ((x, ws) :: F) → arB tn x → x ≠ 45 → aw us → okF tn ((x, us) :: F)
  | [], h, g, _, hu => by
    have hx := h.1
    refine ⟨hx, fun e => ?_, fun _ => hu⟩
    unfold arB isR at g
    rcases g with g | g | g | g | g
    · omega
    · omega
    · omega
    · omega
    · rw [e] at g; cases g.2
  | (y, vs) :: F, h, g, c, hu => by
    refine ⟨h.1, ?_⟩
    rcases h.2 with q | q | q | q
    · exfalso
      have := q.1
      unfold arB isR at g
      rcases g with g | g | g | g | g
      · omega
      · omega
      · omega
      · omega
      · have := g.1; omega
    · exact Or.inr (Or.inl ⟨q.1, hu, q.2.2⟩)
    · exact Or.inr (Or.inr (Or.inl ⟨q.1, hu, q.2.2⟩))
    · exact absurd q.1 c
theorem rk_ar {k : Int} : (k = 34 ∨ k = 35 → rk k = 5) ∧ (k = 36 ∨ k = 37 ∨ k = 38 → rk k = 6) := by
  constructor
  · rintro (rfl | rfl) <;> rfl
  · rintro (rfl | rfl | rfl) <;> rfl
theorem tk_dr (r : Int) (ws : List Int) : tkW r ws ++ drW r ws = ws := List.takeWhile_append_dropWhile
theorem aw_dr {ws : List Int} {k : Int} (h : aw ws) (hk : 34 ≤ k ∧ k ≤ 38) : aw (k :: drW (rk k) ws) := by
  have k5 : rk k = 5 ∨ rk k = 6 := by
    by_cases c : k = 34 ∨ k = 35
    · exact Or.inl (rk_ar.1 c)
    · exact Or.inr (rk_ar.2 (by omega))
  have kk : (rk k = 5 → k = 34 ∨ k = 35) ∧ (rk k = 6 → k = 36 ∨ k = 37 ∨ k = 38) := by
    constructor
    · intro e
      by_cases c : k = 34 ∨ k = 35
      · exact c
      · have := rk_ar.2 (show k = 36 ∨ k = 37 ∨ k = 38 by omega); omega
    · intro e
      by_cases c : k = 34 ∨ k = 35
      · have := rk_ar.1 c; omega
      · omega
  have h1 : aw [k] := by
    rcases k5 with e | e
    · exact Or.inr (Or.inl ⟨k, kk.1 e, rfl⟩)
    · exact Or.inr (Or.inr (Or.inl ⟨k, kk.2 e, rfl⟩))
  rcases h with rfl | ⟨a, ha, rfl⟩ | ⟨m, hm, rfl⟩ | ⟨m, a, hm, ha, rfl⟩
  · exact h1
  · have ra := rk_ar.1 ha
    rcases k5 with e | e
    · have : drW (rk k) [a] = [] := by unfold drW; rw [e]; simp [List.dropWhile, ra]
      rw [this]; exact h1
    · have : drW (rk k) [a] = [a] := by unfold drW; rw [e]; simp [List.dropWhile, ra]
      rw [this]
      exact Or.inr (Or.inr (Or.inr ⟨k, a, kk.2 e, ha, rfl⟩))
  · have rm := rk_ar.2 hm
    have : drW (rk k) [m] = [] := by rcases k5 with e | e <;> (unfold drW; rw [e]; simp [List.dropWhile, rm])
    rw [this]; exact h1
  · have rm := rk_ar.2 hm
    have ra := rk_ar.1 ha
    rcases k5 with e | e
    · have : drW (rk k) [m, a] = [] := by unfold drW; rw [e]; simp [List.dropWhile, rm, ra]
      rw [this]; exact h1
    · have : drW (rk k) [m, a] = [a] := by unfold drW; rw [e]; simp [List.dropWhile, rm, ra]
      rw [this]
      exact Or.inr (Or.inr (Or.inr ⟨k, a, kk.2 e, ha, rfl⟩))
theorem bw_dr {bs : List Int} {k : Int} (h : bw bs) (hk : k = 12 ∨ k = 13) : bw (k :: drW (rk k) bs) := by
  rcases hk with rfl | rfl <;> rcases h with rfl | rfl | rfl | rfl <;> first | exact Or.inr (Or.inl rfl) | exact Or.inr (Or.inr (Or.inl rfl)) | exact Or.inr (Or.inr (Or.inr rfl))
theorem nts_ok {tn : Bool} {bs : List Int} : ∀ n : Nat, okF tn (nts n [(1, bs)]) → asB tn (topF (nts n [(1, bs)])) → tn = true ∧ bw bs ∧ ty (nts n [(1, bs)]) = tw bs ∧ dep (nts n [(1, bs)]) = n
  | 0, h, g => by
    replace g : asB tn 1 := g
    unfold asB at g
    have ht : tn = true := by
      rcases g with g | g
      · omega
      · exact g.2
    refine ⟨ht, h.2.1 ht, ?_, rfl⟩
    show tw bs ++ ((if 28 ≤ (1 : Int) ∧ (1 : Int) ≤ 33 then [false] else []) ++ []) = tw bs
    rw [if_neg (by decide), List.append_nil, List.append_nil]
  | n + 1, h, g => by
    have hs : okF tn (nts n [(1, bs)]) ∧ asB tn (topF (nts n [(1, bs)])) := by
      cases n with
      | zero =>
        refine ⟨h.1, ?_⟩
        rcases h.2 with q | q | q | q
        · exact q.2.2
        · exact q.2.2
        · exact absurd q.1 (by decide)
        · exact absurd q.1 (by decide)
      | succ m => exact ⟨h.1, Or.inl rfl⟩
    obtain ⟨a, b, c, e⟩ := nts_ok n hs.1 hs.2
    refine ⟨a, b, ?_, ?_⟩
    · show tw [] ++ ((if 28 ≤ (14 : Int) ∧ (14 : Int) ≤ 33 then [false] else []) ++ ty (nts n [(1, bs)])) = tw bs
      rw [if_neg (by decide), c]
      rfl
    · show (if (14 : Int) = 14 ∨ (14 : Int) = 39 ∨ (14 : Int) = 45 then 1 else 0) + dep (nts n [(1, bs)]) = n + 1
      rw [if_pos (by decide), e]
      omega
