/-! the start: strings, statics -/
theorem st_S {args : Array Value} {s : State} {A : Nat → Prop} {k n kv : Nat} (hex : (Cond.exactly (.string "HummingBridges$Tape" k) "java/lang/String").before args s = true) (hco : (Cond.eq (.field (.string "HummingBridges$Tape" k) "java/lang/String" "coder" "B") (.int 0)).before args s = true) (harr : (Cond.arrayOf (.field (.string "HummingBridges$Tape" k) "java/lang/String" "value" "[B") .byte).before args s = true) (hlen : (Cond.eq (.length (.field (.string "HummingBridges$Tape" k) "java/lang/String" "value" "[B")) (.int (Int32.ofNat n))).before args s = true) (hel : ∀ j, j < n → (Cond.eq (.elem (.field (.string "HummingBridges$Tape" k) "java/lang/String" "value" "[B") (.int (Int32.ofNat j))) (.int (Int32.ofInt (CT kv j)))).before args s = true) (hn : n < 2 ^ 31) (hA : ∀ a : Nat, a < s.heap.size → ¬ A a) : ∃ a b : Nat, (Term.string "HummingBridges$Tape" k).eval args s none [] s = some (.ref a) ∧ va_O "java/lang/String" a A s s.heap ∧ va_OF "java/lang/String" "coder" "B" (.int 0) a A s s.heap ∧ va_OF "java/lang/String" "value" "[B" (.ref b) a A s s.heap ∧ va_T .byte b n (fun i => .int (Int32.ofInt (CT kv i))) A s s.heap := by
  obtain ⟨b, hb, hT⟩ := va_Tof (f := fun i => .int (Int32.ofInt (CT kv i))) hn harr (va_eqt hlen) (fun j hj => va_eqt (hel j hj)) hA
  obtain ⟨a, -, -, -, ha, -⟩ := Cond.exactly_spec hex
  exact ⟨a, b, ha, va_Oof hex ha hA, vk_OFof ha (va_eqt hco) hA, vk_OFof ha hb hA, hT⟩
theorem st_b0 : ∀ r, r < 24 → stW[58 + (24 * 0 + r)]? = some (Cond.eq (.elem (.field (.string "HummingBridges$Tape" 43) "java/lang/String" "value" "[B") (.int (Int32.ofNat (24 * 0 + r)))) (.int (Int32.ofInt (CT 148 ((24 * 0 + r : Nat) : Int))))) := by decide +kernel
theorem st_b1 : ∀ r, r < 24 → stW[58 + (24 * 1 + r)]? = some (Cond.eq (.elem (.field (.string "HummingBridges$Tape" 43) "java/lang/String" "value" "[B") (.int (Int32.ofNat (24 * 1 + r)))) (.int (Int32.ofInt (CT 148 ((24 * 1 + r : Nat) : Int))))) := by decide +kernel
theorem st_b2 : ∀ r, r < 24 → stW[58 + (24 * 2 + r)]? = some (Cond.eq (.elem (.field (.string "HummingBridges$Tape" 43) "java/lang/String" "value" "[B") (.int (Int32.ofNat (24 * 2 + r)))) (.int (Int32.ofInt (CT 148 ((24 * 2 + r : Nat) : Int))))) := by decide +kernel
theorem st_b3 : ∀ r, r < 24 → stW[58 + (24 * 3 + r)]? = some (Cond.eq (.elem (.field (.string "HummingBridges$Tape" 43) "java/lang/String" "value" "[B") (.int (Int32.ofNat (24 * 3 + r)))) (.int (Int32.ofInt (CT 148 ((24 * 3 + r : Nat) : Int))))) := by decide +kernel
theorem st_b4 : ∀ r, r < 24 → stW[58 + (24 * 4 + r)]? = some (Cond.eq (.elem (.field (.string "HummingBridges$Tape" 43) "java/lang/String" "value" "[B") (.int (Int32.ofNat (24 * 4 + r)))) (.int (Int32.ofInt (CT 148 ((24 * 4 + r : Nat) : Int))))) := by decide +kernel
theorem st_b5 : ∀ r, r < 24 → stW[58 + (24 * 5 + r)]? = some (Cond.eq (.elem (.field (.string "HummingBridges$Tape" 43) "java/lang/String" "value" "[B") (.int (Int32.ofNat (24 * 5 + r)))) (.int (Int32.ofInt (CT 148 ((24 * 5 + r : Nat) : Int))))) := by decide +kernel
theorem st_b6 : ∀ r, r < 24 → stW[58 + (24 * 6 + r)]? = some (Cond.eq (.elem (.field (.string "HummingBridges$Tape" 43) "java/lang/String" "value" "[B") (.int (Int32.ofNat (24 * 6 + r)))) (.int (Int32.ofInt (CT 148 ((24 * 6 + r : Nat) : Int))))) := by decide +kernel
theorem st_S1 {args : Array Value} {s : State} {A : Nat → Prop} (hgv : (Jvm.Cond.and given_1 narrow_1).before args s = true) (hA : ∀ a : Nat, a < s.heap.size → ¬ A a) : ∃ a b : Nat, (Term.string "HummingBridges$Tape" 43).eval args s none [] s = some (.ref a) ∧ va_O "java/lang/String" a A s s.heap ∧ va_OF "java/lang/String" "coder" "B" (.int 0) a A s s.heap ∧ va_OF "java/lang/String" "value" "[B" (.ref b) a A s s.heap ∧ va_T .byte b 168 (fun i => .int (Int32.ofInt (CT 148 i))) A s s.heap := by
  have hs := flat_of_before _ hgv
  refine st_S (hs _ (show _ ∈ stW by decide +kernel)) (hs _ (show _ ∈ stW by decide +kernel)) (hs _ (show _ ∈ stW by decide +kernel)) (hs _ (show _ ∈ stW by decide +kernel)) (fun j hj => hs _ ?_) (by decide) hA
  have e : j = 24 * (j / 24) + j % 24 := by omega
  have hd : j / 24 < 7 := by omega
  have hm : j % 24 < 24 := by omega
  rw [e]
  generalize j % 24 = r at hm
  generalize j / 24 = d at hd
  refine List.mem_of_getElem? (i := 58 + (24 * d + r)) ?_
  rcases (show d = 0 ∨ d = 1 ∨ d = 2 ∨ d = 3 ∨ d = 4 ∨ d = 5 ∨ d = 6 by omega) with rfl | rfl | rfl | rfl | rfl | rfl | rfl
  · exact st_b0 r hm
  · exact st_b1 r hm
  · exact st_b2 r hm
  · exact st_b3 r hm
  · exact st_b4 r hm
  · exact st_b5 r hm
  · exact st_b6 r hm
theorem st_S2 {args : Array Value} {s : State} {A : Nat → Prop} (hgv : (Jvm.Cond.and given_1 narrow_1).before args s = true) (hA : ∀ a : Nat, a < s.heap.size → ¬ A a) : ∃ a b : Nat, (Term.string "HummingBridges$Tape" 60).eval args s none [] s = some (.ref a) ∧ va_O "java/lang/String" a A s s.heap ∧ va_OF "java/lang/String" "coder" "B" (.int 0) a A s s.heap ∧ va_OF "java/lang/String" "value" "[B" (.ref b) a A s s.heap ∧ va_T .byte b 14 (fun i => .int (Int32.ofInt (CT 150 i))) A s s.heap := by
  have hs := flat_of_before _ hgv
  refine st_S (hs _ (show _ ∈ stW by decide +kernel)) (hs _ (show _ ∈ stW by decide +kernel)) (hs _ (show _ ∈ stW by decide +kernel)) (hs _ (show _ ∈ stW by decide +kernel)) (fun j hj => hs _ ?_) (by decide) hA
  exact (show ∀ j, j < 14 → Cond.eq (.elem (.field (.string "HummingBridges$Tape" 60) "java/lang/String" "value" "[B") (.int (Int32.ofNat j))) (.int (Int32.ofInt (CT 150 j))) ∈ stW by decide +kernel) j hj
theorem st_Z5 {args : Array Value} {s : State} {A : Nat → Prop} (hts : ∀ w ∈ lw_tbl, w.before args s = true) (hgv : (Jvm.Cond.and given_1 narrow_1).before args s = true) (hA : ∀ a : Nat, a < s.heap.size → ¬ A a) : va_Z (sNa 5).1 (sNa 5).2.1 (sNa 5).2.2 (.int 1) A s s.heap :=
  va_Zof (hts _ (show Cond.laysStatic (sNa 5).1 (sNa 5).2.1 (sNa 5).2.2 ∈ lw_tbl by decide +kernel)) (hts _ (show Cond.initialized (sNa 5).1 ∈ lw_tbl by decide +kernel)) (va_eqi (flat_of_before _ hgv _ (show Cond.eq (.static (sNa 5).1 (sNa 5).2.1 (sNa 5).2.2) (.int 1) ∈ stW by decide +kernel))) hA
theorem st_Z6 {args : Array Value} {s : State} {A : Nat → Prop} (hts : ∀ w ∈ lw_tbl, w.before args s = true) (hgv : (Jvm.Cond.and given_1 narrow_1).before args s = true) (hA : ∀ a : Nat, a < s.heap.size → ¬ A a) : ∃ r : Option Nat, va_Z (sNa 6).1 (sNa 6).2.1 (sNa 6).2.2 (va_rf r) A s s.heap := by
  rcases va_Zqof (hts _ (show Cond.laysStatic (sNa 6).1 (sNa 6).2.1 (sNa 6).2.2 ∈ lw_tbl by decide +kernel)) (hts _ (show Cond.initialized (sNa 6).1 ∈ lw_tbl by decide +kernel)) (flat_of_before _ hgv _ (show Cond.isRef (.static (sNa 6).1 (sNa 6).2.1 (sNa 6).2.2) ∈ stW by decide +kernel)) hA with h | ⟨t, h⟩
  · exact ⟨none, h⟩
  · exact ⟨some t, h⟩
