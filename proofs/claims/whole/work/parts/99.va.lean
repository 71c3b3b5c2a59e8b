/-! the start: the classes known -/
theorem st_AO {args : Array Value} {s : State} {C : String} (h : (Cond.arrayOver (.object C)).before args s = true) : ∃ (cA : ClassId) (kA : Class) (comp : ClassId), s.vm.classes[cA]? = some kA ∧ kA.kind = .array comp (.object C) ∧ s.vm.findClass C = some comp ∧ s.vm.findClass ("[" ++ (FieldType.object C).toString) = some cA := by
  unfold Cond.before at h
  simp only [Cond.holds, Cond.value, beq_iff_eq] at h
  cases hc : s.vm.findClass C with
  | none => simp [hc] at h
  | some comp =>
    simp only [hc, Option.bind_some, Option.bind_eq_some_iff, Option.map_eq_some_iff] at h
    obtain ⟨c, hi, k, hk, hb⟩ := h
    obtain ⟨hlt, hp, -⟩ := Array.findIdx?_eq_some_iff_getElem.mp hi
    have hkk : s.vm.classes[c] = k := (Array.getElem?_eq_some_iff.mp hk).2
    rw [hkk] at hp
    cases hkind : k.kind with
    | array component ty =>
      rw [hkind] at hb hp
      simp at hb hp
      exact ⟨c, k, comp, hk, by rw [hkind, hp, hb.1], rfl, hb.2⟩
    | _ => rw [hkind] at hb; simp at hb
theorem st_AC {args : Array Value} {s : State} {ty : FieldType} (h : (Cond.arrayClass ty).before args s = true) : ∃ cA : ClassId, ArrOfT s cA ty ∧ s.vm.findClass ("[" ++ ty.toString) = some cA := by
  obtain ⟨cA, kA, comp, h1, h2, h3⟩ := Cond.arrayClass_spec h
  exact ⟨cA, fun n z => ⟨fun k h => (by cases h), kA, h2, comp, h3⟩, h1⟩
theorem st_K {args : Array Value} {s : State} (hts : ∀ w ∈ lw_tbl, w.before args s = true) : ∃ (dC : Nat → ClassId) (dI : Nat → Nat → Nat) (cc : Nat → ClassId), va_K (dC, dI) vwCl (tysA cc) s ∧ NWs s := by
  have hg : ∀ w ∈ gw, w.before args s = true := fun w hw => hts w (List.mem_filter.mp hw).1
  have hk : ∀ c, c < 13 → ∃ (cC : ClassId) (iS : Nat → Nat), u_Kn s (clsS c) (TXa c) (nFl c) cC iS := fun c hc => u_known hg (ws_in c hc) (hg _ ((show ∀ c, c < 13 → Cond.instantiable (clsS c) (nFl c) ∈ gw by decide +kernel) c hc))
  obtain ⟨c2, a2, f2⟩ := st_AC (hts (.arrayClass .int) (by decide +kernel))
  obtain ⟨c3, a3, f3⟩ := st_AC (hts (.arrayClass .byte) (by decide +kernel))
  obtain ⟨c4, a4, f4⟩ := st_AC (hts (.arrayClass .long) (by decide +kernel))
  obtain ⟨c5, a5, f5⟩ := st_AC (hts (.arrayClass .boolean) (by decide +kernel))
  obtain ⟨c6, k6, m6, e1, e2, e3, e4⟩ := st_AO (hts (.arrayOver (.object "HummingBridges$Score")) (by decide +kernel))
  refine ⟨fun c => if h : c < 13 then (hk c h).choose else 0, fun c => if h : c < 13 then (hk c h).choose_spec.choose else fun _ => 0, fun n => if n = 2 then c2 else if n = 3 then c3 else if n = 4 then c4 else if n = 5 then c5 else c6, ⟨?_, ?_⟩, ?_, ?_⟩
  · intro c q hq
    have hlt : c < 13 := Nat.lt_of_not_le fun hc => by
      have := (List.getElem?_eq_some_iff.mp hq).1
      exact absurd this (Nat.not_lt.mpr hc)
    rw [vw_at c hlt] at hq
    cases hq
    simp only [dif_pos hlt]
    exact (hk c hlt).choose_spec.choose_spec
  · intro k q hq
    match k, hq with
    | 0, hq => cases hq; exact ⟨a2, f2⟩
    | 1, hq => cases hq; exact ⟨a3, f3⟩
    | 2, hq => cases hq; exact ⟨a4, f4⟩
    | 3, hq => cases hq; exact ⟨a5, f5⟩
    | 4, hq => cases hq; exact ⟨fun n z => ⟨fun k h => (by cases h), k6, e1, m6, e2⟩, k6, m6, e1, e2, e3, e4⟩
    | k + 5, hq => simp [tysA] at hq
  · intro a i x h hw
    exact va_Nw.of rfl (hts _ hw)
  · exact va_AO.of (hts (.arrayOver (.object "HummingBridges$Score")) (by decide +kernel))
