/-! the start: static arrays -/
abbrev stW : List Cond := flatC (Jvm.Cond.and given_1 narrow_1)
theorem st_T {args : Array Value} {s : State} {A : Nat → Prop} (hts : ∀ w ∈ lw_tbl, w.before args s = true) (hgv : (Jvm.Cond.and given_1 narrow_1).before args s = true) (hA : ∀ a : Nat, a < s.heap.size → ¬ A a) {q : Nat} (hq : q < 5) : ∃ t : Nat, va_T .int t 6 (fun i => .int (Int32.ofInt (CT (142 + q) i))) A s s.heap ∧ va_Z (sNa q).1 (sNa q).2.1 (sNa q).2.2 (.ref t) A s s.heap := by
  have hs := flat_of_before _ hgv
  have h1 : ∀ q, q < 5 → Cond.arrayOf (.static (sNa q).1 (sNa q).2.1 (sNa q).2.2) .int ∈ stW := by decide +kernel
  have h2 : ∀ q, q < 5 → Cond.eq (.length (.static (sNa q).1 (sNa q).2.1 (sNa q).2.2)) (.int (Int32.ofNat 6)) ∈ stW := by decide +kernel
  have h3 : ∀ q, q < 5 → ∀ j, j < 6 → Cond.eq (.elem (.static (sNa q).1 (sNa q).2.1 (sNa q).2.2) (.int (Int32.ofNat j))) (.int (Int32.ofInt (CT (142 + q) j))) ∈ stW := by decide +kernel
  have h4 : ∀ q, q < 5 → Cond.laysStatic (sNa q).1 (sNa q).2.1 (sNa q).2.2 ∈ lw_tbl := by decide +kernel
  have h5 : ∀ q, q < 5 → Cond.initialized (sNa q).1 ∈ lw_tbl := by decide +kernel
  obtain ⟨t, ht, hT⟩ := va_Tof (f := fun i => .int (Int32.ofInt (CT (142 + q) i))) (by decide) (hs _ (h1 q hq)) (va_eqt (hs _ (h2 q hq))) (fun j hj => va_eqt (hs _ (h3 q hq j hj))) hA
  exact ⟨t, hT, va_Zref (hts _ (h4 q hq)) (hts _ (h5 q hq)) ht hA⟩
