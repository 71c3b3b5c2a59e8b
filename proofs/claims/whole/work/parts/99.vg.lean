/-! the start: the memory is of ints -/
theorem CT_b (k : Nat) (i : Int) (h : 142 ≤ k ∧ k ≤ 150) : 0 ≤ CT k i ∧ CT k i ≤ 255 := by
  have key : ∀ k, k < 151 → 142 ≤ k → (ctL k).all (fun v => decide (0 ≤ v ∧ v ≤ 255)) = true := by decide +kernel
  have hk := List.all_eq_true.mp (key k (by omega) h.1)
  unfold CT
  rw [List.getD_eq_getElem?_getD]
  cases e : (ctL k)[i.toNat]? with
  | none => exact ⟨by decide, by decide⟩
  | some v => exact of_decide_eq_true (hk v (List.mem_of_getElem? e))
theorem okM_0 {S : Int → Int} (hS : ∀ i, R32 (S i)) : okM (m0 S) := by
  intro k i
  have key : R32 (m0 S k i) := by
    by_cases h1 : k = 152
    · subst h1; exact hS i
    · by_cases h2 : 142 ≤ k ∧ k ≤ 150
      · have h := CT_b k i h2
        have e : m0 S k = CT k := by unfold m0; rw [if_neg h1, if_pos h2]
        rw [e]
        unfold R32
        omega
      · unfold m0 R32
        rw [if_neg h1, if_neg h2]
        unfold az rz
        repeat' split
        all_goals (dsimp only; first | omega | (split <;> omega) | (split <;> (first | omega | (split <;> omega))))
  exact ⟨fun _ => by unfold R32 at key; unfold R64; omega, fun _ => key⟩
