/-! text: the class joins -/
theorem fLw_of {t : Nat} {M M' : mM} (h : fRd t M M') : fLw t M M' := ⟨h.1, fun i a => h.2.1 i (by omega) (by omega), h.2.2⟩
theorem ngs_n : ∀ A : List Int, (∀ k ∈ A, k ≠ 45 ∧ k ≠ 14) → ngs A = 0
  | [], _ => rfl
  | k :: A, h => by
    have h1 := h k (List.mem_cons_self ..)
    have ih := ngs_n A (fun x hx => h x (List.mem_cons_of_mem _ hx))
    show (if k = 45 ∨ k = 14 then 1 else 0) + ngs A = 0
    rw [if_neg (fun e => e.elim h1.1 h1.2), ih]
    rfl
