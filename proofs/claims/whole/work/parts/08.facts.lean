/-! what the checked tables give -/
theorem fd_mem {α β : Type} {l : List α} {p : α → Bool} {g : α → β} {dv v : β} (h : ((l.find? p).map g).getD dv = v) (hv : v ≠ dv) : ∃ q ∈ l, p q = true ∧ g q = v := by
  cases e : l.find? p with
  | none => rw [e] at h; exact absurd h.symm hv
  | some q => rw [e] at h; exact ⟨q, List.mem_of_find?_eq_some e, List.find?_some e, h⟩
theorem gw_in {w : Cond} (h : w ∈ lw_tbl) (hg : goodWord w = true) : w ∈ gw := List.mem_filter.mpr ⟨h, hg⟩
theorem gw_good : GoodIn gw gw := fun w h => ⟨h, good_of_word (List.mem_filter.mp h).2⟩
theorem fR_mem {o i c f kd : Nat} (h : fR o i = (c, f, kd)) (hc : c ≠ 99) : ∃ p, fOk (o, i, c, f, kd, p) = true := by
  obtain ⟨⟨o', i', c', f', k', p⟩, hq, hp, hg⟩ := fd_mem h (by intro e; exact hc (congrArg Prod.fst e))
  simp only [Bool.and_eq_true, beq_iff_eq] at hp
  simp only [Prod.mk.injEq] at hg
  obtain ⟨rfl, rfl⟩ := hp
  obtain ⟨rfl, rfl, rfl⟩ := hg
  exact ⟨p, List.all_eq_true.mp fPosA _ hq⟩
theorem fR_own {o i c f kd : Nat} (h : fR o i = (c, f, kd)) (hc : c < 13) : f < nFl c ∧ fk c f = kd ∧ Cond.fieldLink (clsS o) i (clsS c) (TXa c f).2.1 (TXa c f).2.2.1 ∈ gw ∧ (TXa c f).1 = clsS c ∧ (kd = 2 ∨ (TXa c f).2.2.2 = false) := by
  obtain ⟨p, hp⟩ := fR_mem h (by omega)
  unfold fOk at hp
  simp only [Bool.or_eq_true, Bool.and_eq_true, decide_eq_true_eq] at hp
  rcases hp with ⟨h1, -⟩ | ⟨⟨⟨⟨⟨h1, h2⟩, h3⟩, h4⟩, h5⟩, h6⟩
  · omega
  · exact ⟨h2, h3, gw_in (List.mem_of_getElem? h4) rfl, h5, h6⟩
theorem fR_str {o i f kd : Nat} (h : fR o i = (14, f, kd)) : (f = 0 ∧ kd = 2 ∧ Cond.fieldLink (clsS o) i "java/lang/String" "value" "[B" ∈ gw) ∨ (f = 1 ∧ kd = 4 ∧ Cond.fieldLink (clsS o) i "java/lang/String" "coder" "B" ∈ gw) := by
  obtain ⟨p, hp⟩ := fR_mem h (by decide)
  unfold fOk at hp
  simp only [Bool.or_eq_true, Bool.and_eq_true, decide_eq_true_eq, Prod.mk.injEq] at hp
  rcases hp with ⟨-, ⟨h1, h2⟩ | ⟨h1, h2⟩⟩ | ⟨⟨⟨⟨⟨h1, h2⟩, h3⟩, h4⟩, h5⟩, h6⟩
  · exact Or.inl ⟨h1.1, h1.2.1, gw_in (List.mem_of_getElem? h2) rfl⟩
  · exact Or.inr ⟨h1.1, h1.2.1, gw_in (List.mem_of_getElem? h2) rfl⟩
  · omega
theorem fR_cls {o i c f kd : Nat} (h : fR o i = (c, f, kd)) (hk : kd ≠ 9) : c < 13 ∨ c = 14 := by
  by_cases hc : c = 99
  · exfalso
    by_cases e : (c, f, kd) = (99, 0, 9)
    · exact hk (congrArg (fun q : Nat × Nat × Nat => q.2.2) e)
    · obtain ⟨⟨o', i', c', f', k', p⟩, hq, hp, hg⟩ := fd_mem h e
      have h1 := List.all_eq_true.mp fPosA _ hq
      simp only [Prod.mk.injEq] at hg
      unfold fOk at h1
      simp only [Bool.or_eq_true, Bool.and_eq_true, decide_eq_true_eq] at h1
      omega
  · obtain ⟨p, hp⟩ := fR_mem h hc
    unfold fOk at hp
    simp only [Bool.or_eq_true, Bool.and_eq_true, decide_eq_true_eq] at hp
    omega
theorem mR_mem {o i k n : Nat} (h : mR o i = (k, n)) (hk : k ≠ 9998) : ∃ b p, lOk (o, i, k, n, b, p) = true := by
  obtain ⟨⟨o', i', k', n', b, p⟩, hq, hp, hg⟩ := fd_mem h (by intro e; exact hk (congrArg Prod.fst e))
  simp only [Bool.and_eq_true, beq_iff_eq] at hp
  simp only [Prod.mk.injEq] at hg
  obtain ⟨rfl, rfl⟩ := hp
  obtain ⟨rfl, rfl⟩ := hg
  exact ⟨b, p, List.all_eq_true.mp lPosA _ hq⟩
/-- a callee: its words, and how it is linked -/
theorem mR_own {o i k n : Nat} (h : mR o i = (k, n)) (hk : k < 9000) : k ∈ mUse ∧ (1 ≤ n ∨ stOf k = true) ∧ (parseMethodDescriptor (yOf k).desc).map (fun d => d.parameters.length) = some (if stOf k then n else n - 1) ∧ (Cond.methodLink (clsS o) i (yOf k) ∈ gw ∨ Cond.methodLinkNest (clsS o) i (yOf k) "HummingBridges" ∈ lw_tbl) := by
  obtain ⟨b, p, hp⟩ := mR_mem h (by omega)
  unfold lOk at hp
  rw [if_neg (by show ¬ k = 9999; omega), if_neg (by show ¬ k = 9001; omega), if_neg (by show ¬ k = 9002; omega), if_neg (by show ¬ k = 9003; omega)] at hp
  simp only [Bool.and_eq_true, decide_eq_true_eq] at hp
  obtain ⟨⟨⟨⟨h0, h1⟩, h2⟩, h3⟩, h4⟩ := hp
  refine ⟨by simpa using h1, h2, h3, ?_⟩
  by_cases e : b = 1
  · rw [if_pos e] at h4
    exact Or.inr (List.mem_of_getElem? (of_decide_eq_true h4))
  · rw [if_neg e] at h4
    exact Or.inl (gw_in (List.mem_of_getElem? (of_decide_eq_true h4)) rfl)
theorem mR_cpy {o i n : Nat} (h : mR o i = (9999, n)) : Cond.methodLink (clsS o) i arraycopyName ∈ gw := by
  obtain ⟨b, p, hp⟩ := mR_mem h (by decide)
  unfold lOk at hp
  rw [if_pos rfl] at hp
  exact gw_in (List.mem_of_getElem? (of_decide_eq_true hp)) rfl
theorem mR_max {o i n : Nat} (h : mR o i = (9001, n)) : Cond.methodLink (clsS o) i Lib.Math.max.name ∈ gw := by
  obtain ⟨b, p, hp⟩ := mR_mem h (by decide)
  unfold lOk at hp
  rw [if_neg (by show ¬ (9001 : Nat) = 9999; decide), if_pos rfl] at hp
  exact gw_in (List.mem_of_getElem? (of_decide_eq_true hp)) rfl
theorem mR_min {o i n : Nat} (h : mR o i = (9002, n)) : Cond.methodLink (clsS o) i Lib.Math.min.name ∈ gw := by
  obtain ⟨b, p, hp⟩ := mR_mem h (by decide)
  unfold lOk at hp
  rw [if_neg (by show ¬ (9002 : Nat) = 9999; decide), if_neg (by show ¬ (9002 : Nat) = 9001; decide), if_pos rfl] at hp
  exact gw_in (List.mem_of_getElem? (of_decide_eq_true hp)) rfl
theorem mR_abs {o i n : Nat} (h : mR o i = (9003, n)) : Cond.methodLink (clsS o) i Lib.Math.abs.name ∈ gw := by
  obtain ⟨b, p, hp⟩ := mR_mem h (by decide)
  unfold lOk at hp
  rw [if_neg (by show ¬ (9003 : Nat) = 9999; decide), if_neg (by show ¬ (9003 : Nat) = 9001; decide), if_neg (by show ¬ (9003 : Nat) = 9002; decide), if_pos rfl] at hp
  exact gw_in (List.mem_of_getElem? (of_decide_eq_true hp)) rfl
theorem mOk_spec {k : Nat} (h : k ∈ mUse) : Cond.code (yOf k) (cOf k) (nOf k) (rtOf k) ∈ gw ∧ Cond.initialized (yOf k).cls ∈ gw ∧ (yOf k).cls = clsS (oOf k) ∧ nOf k ≤ 30 ∧ plainName (yOf k).cls = true ∧ (yOf k).cls ≠ "java/lang/invoke/MethodHandle" ∧ (yOf k).cls ≠ "java/lang/invoke/VarHandle" ∧ (stOf k = true → Cond.static (yOf k) ∈ gw) ∧ (stOf k = false → Cond.instanceMethod (yOf k) ∈ gw ∧ Cond.selects (yOf k).cls (yOf k) (yOf k) ∈ gw) := by
  have hp := List.all_eq_true.mp mUseA _ h
  unfold mOk at hp
  simp only [Bool.and_eq_true, decide_eq_true_eq] at hp
  obtain ⟨⟨⟨⟨⟨⟨⟨h1, h2⟩, h3⟩, h4⟩, h5⟩, h6⟩, h7⟩, h8⟩ := hp
  refine ⟨gw_in (List.mem_of_getElem? h1) rfl, gw_in (List.mem_of_getElem? h2) rfl, h3, h4, h5, h6, h7, fun e => ?_, fun e => ?_⟩
  · rw [if_pos e] at h8
    exact gw_in (List.mem_of_getElem? (of_decide_eq_true h8)) rfl
  · rw [if_neg (by rw [e]; decide)] at h8
    simp only [Bool.and_eq_true, decide_eq_true_eq] at h8
    exact ⟨gw_in (List.mem_of_getElem? h8.1) rfl, gw_in (List.mem_of_getElem? h8.2) rfl⟩
theorem kR_mem {o i t : Nat} {z : Int} (h : kR o i = (t, z)) (ht : t ≠ 0) : ∃ p, kOk (o, i, t, z, p) = true := by
  obtain ⟨⟨o', i', t', z', p⟩, hq, hp, hg⟩ := fd_mem h (by intro e; exact ht (congrArg Prod.fst e))
  simp only [Bool.and_eq_true, beq_iff_eq] at hp
  simp only [Prod.mk.injEq] at hg
  obtain ⟨rfl, rfl⟩ := hp
  obtain ⟨rfl, rfl⟩ := hg
  exact ⟨p, List.all_eq_true.mp kPosA _ hq⟩
theorem kR_1 {o i : Nat} {z : Int} (h : kR o i = (1, z)) : Cond.constant (clsS o) i (Int32.ofInt z) ∈ gw := by
  obtain ⟨p, hp⟩ := kR_mem h (by decide)
  unfold kOk at hp
  rw [if_pos rfl] at hp
  exact gw_in (List.mem_of_getElem? (of_decide_eq_true hp)) rfl
theorem kR_3 {o i : Nat} {z : Int} (h : kR o i = (3, z)) : Cond.constantLong (clsS o) i (Int64.ofInt z) ∈ gw := by
  obtain ⟨p, hp⟩ := kR_mem h (by decide)
  unfold kOk at hp
  rw [if_neg (by show ¬ (3 : Nat) = 1; decide), if_pos rfl] at hp
  exact gw_in (List.mem_of_getElem? (of_decide_eq_true hp)) rfl
theorem kR_2 {o i : Nat} {z : Int} (h : kR o i = (2, z)) : o = 9 ∧ (i = 43 ∧ z = 147 ∨ i = 60 ∧ z = 149) := by
  obtain ⟨p, hp⟩ := kR_mem h (by decide)
  unfold kOk at hp
  rw [if_neg (by show ¬ (2 : Nat) = 1; decide), if_neg (by show ¬ (2 : Nat) = 3; decide)] at hp
  simp only [Bool.or_eq_true, Bool.and_eq_true, decide_eq_true_eq] at hp
  exact hp.2
theorem gR_mem {o i t : Nat} {z : Int} (h : gR o i = (t, z)) (ht : t ≠ 0) : ∃ q, q < 7 ∧ Cond.fieldLink (clsS o) i (sNa q).1 (sNa q).2.1 (sNa q).2.2 ∈ gw ∧ (q < 5 ∧ t = 2 ∧ z = 142 + (q : Int) ∨ q = 5 ∧ t = 1 ∧ z = 1 ∨ q = 6 ∧ t = 2 ∧ z = 151) := by
  obtain ⟨⟨o', i', t', z', q, p⟩, hq, hp, hg⟩ := fd_mem h (by intro e; exact ht (congrArg Prod.fst e))
  simp only [Bool.and_eq_true, beq_iff_eq] at hp
  simp only [Prod.mk.injEq] at hg
  obtain ⟨rfl, rfl⟩ := hp
  obtain ⟨rfl, rfl⟩ := hg
  have h1 := List.all_eq_true.mp gPosA _ hq
  unfold gOk at h1
  simp only [Bool.or_eq_true, Bool.and_eq_true, decide_eq_true_eq] at h1
  obtain ⟨⟨a, b⟩, c⟩ := h1
  refine ⟨q, a, gw_in (List.mem_of_getElem? b) rfl, ?_⟩
  rcases c with (⟨⟨c1, c2⟩, c3⟩ | ⟨⟨c1, c2⟩, c3⟩) | ⟨⟨c1, c2⟩, c3⟩
  · exact Or.inl ⟨c1, c2, c3⟩
  · exact Or.inr (Or.inl ⟨c1, c2, c3⟩)
  · exact Or.inr (Or.inr ⟨c1, c2, c3⟩)
theorem pW_in {w : Cond} {n : Nat} (h : (n, w) ∈ pW) (hg : goodWord w = true) : w ∈ gw :=
  gw_in (List.mem_of_getElem? (of_decide_eq_true (List.all_eq_true.mp pWA _ h))) hg
-- cells
theorem sh_big {k : Nat} (h : 153 ≤ k) : ak k = 0 ∧ clO k = 99 := by
  have e : shT[k]? = none := List.getElem?_eq_none (Nat.le_trans (show shT.length ≤ 153 by decide +kernel) h)
  have e2 : cloT[k]? = none := List.getElem?_eq_none (Nat.le_trans (show cloT.length ≤ 153 by decide +kernel) h)
  exact ⟨by unfold ak; rw [List.getD_eq_getElem?_getD, e]; rfl, by unfold clO; rw [List.getD_eq_getElem?_getD, e2]; rfl⟩
theorem sh_lt {P : Nat → Prop} [DecidablePred P] (h : (List.range 153).all (fun k => decide (P k)) = true) {k : Nat} (hk : k < 153) : P k := of_decide_eq_true (List.all_eq_true.mp h k (List.mem_range.mpr hk))
theorem cl_own {k : Nat} (h : clO k < 13) : ak k = 1 ∧ aln k = clO k ∧ 1 ≤ k ∧ k ≤ 141 := by
  by_cases e : k < 153
  · exact sh_lt (P := fun k => clO k < 13 → ak k = 1 ∧ aln k = clO k ∧ 1 ≤ k ∧ k ≤ 141) (by decide +kernel) e h
  · have := (sh_big (k := k) (by omega)).2
    omega
theorem cl_str {k : Nat} (h : clO k = 14) : k = 147 ∨ k = 149 := by
  by_cases e : k < 153
  · exact sh_lt (P := fun k => clO k = 14 → k = 147 ∨ k = 149) (by decide +kernel) e h
  · have := (sh_big (k := k) (by omega)).2
    omega
theorem ak_own {k : Nat} (h : ak k = 2 ∨ ak k = 3 ∨ ak k = 4 ∨ ak k = 5 ∨ ak k = 6) : 1 ≤ k ∧ k ≤ 141 ∧ aln k < 2147483648 := by
  by_cases e : k < 153
  · exact sh_lt (P := fun k => (ak k = 2 ∨ ak k = 3 ∨ ak k = 4 ∨ ak k = 5 ∨ ak k = 6) → 1 ≤ k ∧ k ≤ 141 ∧ aln k < 2147483648) (by decide +kernel) e h
  · have := (sh_big (k := k) (by omega)).1
    omega
theorem ak_7 {k : Nat} (h : ak k = 7) : 142 ≤ k ∧ k < 147 ∧ aln k = 6 := by
  by_cases e : k < 153
  · exact sh_lt (P := fun k => ak k = 7 → 142 ≤ k ∧ k < 147 ∧ aln k = 6) (by decide +kernel) e h
  · have := (sh_big (k := k) (by omega)).1
    omega
theorem ak_9 {k : Nat} (h : ak k = 9) : (k = 148 ∧ aln k = 168) ∨ (k = 150 ∧ aln k = 14) := by
  by_cases e : k < 153
  · exact sh_lt (P := fun k => ak k = 9 → (k = 148 ∧ aln k = 168) ∨ (k = 150 ∧ aln k = 14)) (by decide +kernel) e h
  · have := (sh_big (k := k) (by omega)).1
    omega
theorem ak_10 {k : Nat} (h : ak k = 10) : k = 152 := by
  by_cases e : k < 153
  · exact sh_lt (P := fun k => ak k = 10 → k = 152) (by decide +kernel) e h
  · have := (sh_big (k := k) (by omega)).1
    omega
theorem vw_at : ∀ c, c < 13 → vwCl[c]? = some (clsS c, TXa c, nFl c) := by
  intro c hc
  match c, hc with
  | 0, _ => rfl
  | 1, _ => rfl
  | 2, _ => rfl
  | 3, _ => rfl
  | 4, _ => rfl
  | 5, _ => rfl
  | 6, _ => rfl
  | 7, _ => rfl
  | 8, _ => rfl
  | 9, _ => rfl
  | 10, _ => rfl
  | 11, _ => rfl
  | 12, _ => rfl
theorem ws_in : ∀ c, c < 13 → ∀ w ∈ u_ws (clsS c) (TXa c) (nFl c), w ∈ gw := by
  intro c hc w hw
  have key : ∀ {ws : List Cond}, GoodIn lw_tbl ws → ws.all goodWord = true → w ∈ ws → w ∈ gw := fun h1 h2 h3 => gw_in (h1 w h3).1 (List.all_eq_true.mp h2 w h3)
  match c, hc, hw with
  | 0, _, hw => exact key inX0 (by decide +kernel) hw
  | 1, _, hw => exact key inX1 (by decide +kernel) hw
  | 2, _, hw => exact key inX2 (by decide +kernel) hw
  | 3, _, hw => exact key inX3 (by decide +kernel) hw
  | 4, _, hw => exact key inX4 (by decide +kernel) hw
  | 5, _, hw => exact key inX5 (by decide +kernel) hw
  | 6, _, hw => exact key inX6 (by decide +kernel) hw
  | 7, _, hw => exact key inX7 (by decide +kernel) hw
  | 8, _, hw => exact key inX8 (by decide +kernel) hw
  | 9, _, hw => exact key inX9 (by decide +kernel) hw
  | 10, _, hw => exact key inX10 (by decide +kernel) hw
  | 11, _, hw => exact key inX11 (by decide +kernel) hw
  | 12, _, hw => exact key inX12 (by decide +kernel) hw
theorem ty_ok : ∀ c, c < 13 → ∀ k, k < nFl c → parseFieldDescriptor (TXa c k).2.2.1 = some (tyXa c k) := by
  intro c hc
  match c, hc with
  | 0, _ => exact tyX0_ok
  | 1, _ => exact tyX1_ok
  | 2, _ => exact tyX2_ok
  | 3, _ => exact tyX3_ok
  | 4, _ => exact tyX4_ok
  | 5, _ => exact tyX5_ok
  | 6, _ => exact tyX6_ok
  | 7, _ => exact tyX7_ok
  | 8, _ => exact tyX8_ok
  | 9, _ => exact tyX9_ok
  | 10, _ => exact tyX10_ok
  | 11, _ => exact tyX11_ok
  | 12, _ => exact tyX12_ok
theorem nm_ok : ∀ c, c < 13 → ∀ a, a < nFl c → ∀ b, b < nFl c → a ≠ b → (TXa c a).2.1 ≠ (TXa c b).2.1 := by
  intro c hc
  match c, hc with
  | 0, _ => exact nmX0
  | 1, _ => exact nmX1
  | 2, _ => exact nmX2
  | 3, _ => exact nmX3
  | 4, _ => exact nmX4
  | 5, _ => exact nmX5
  | 6, _ => exact nmX6
  | 7, _ => exact nmX7
  | 8, _ => exact nmX8
  | 9, _ => exact nmX9
  | 10, _ => exact nmX10
  | 11, _ => exact nmX11
  | 12, _ => exact nmX12
theorem fk_ty : ∀ c, c < 13 → ∀ k, k < nFl c → (fk c k = 0 → tyXa c k = .int) ∧ (fk c k = 1 → tyXa c k = .boolean) ∧ (fk c k = 3 → tyXa c k = .object "HummingBridges$Score") := by
  have h : (List.range 13).all (fun c => (List.range (nFl c)).all fun k => decide ((fk c k = 0 → tyXa c k = .int) ∧ (fk c k = 1 → tyXa c k = .boolean) ∧ (fk c k = 3 → tyXa c k = .object "HummingBridges$Score"))) = true := by decide +kernel
  intro c hc k hk
  exact of_decide_eq_true (List.all_eq_true.mp (List.all_eq_true.mp h c (List.mem_range.mpr hc)) k (List.mem_range.mpr hk))
-- small numbers
theorem o_i8 (x : Int8) : x.toInt32 = Int32.ofInt x.toInt := by
  apply Int32.toInt_inj.mp
  have h1 := Int8.le_toInt x
  have h2 := Int8.toInt_lt x
  rw [Int8.toInt_toInt32, t32 (by unfold R32; omega)]
theorem o_i16 (x : Int16) : x.toInt32 = Int32.ofInt x.toInt := by
  apply Int32.toInt_inj.mp
  have h1 := Int16.le_toInt x
  have h2 := Int16.toInt_lt x
  rw [Int16.toInt_toInt32, t32 (by unfold R32; omega)]
theorem o_fin2 : ∀ z : Fin 2, Int64.ofNat (z : Nat) = Int64.ofInt ((z : Nat) : Int)
  | ⟨0, _⟩ => rfl
  | ⟨1, _⟩ => rfl
theorem o_cmp {x y : Int} (hx : R64 x) (hy : R64 y) : lg_cmp (Int64.ofInt x) (Int64.ofInt y) = Int32.ofInt (lCmp x y) := by
  unfold lg_cmp lCmp
  have a : (Int64.ofInt x > Int64.ofInt y) ↔ y < x := p_lt hy hx
  have b := p_eq hx hy
  by_cases g1 : x < y
  · rw [if_pos g1, if_neg (by rw [a]; omega), if_neg (by rw [b]; omega)]; rfl
  · rw [if_neg g1]
    by_cases g2 : x = y
    · rw [if_pos g2, if_neg (by rw [a]; omega), if_pos (by rw [b]; exact g2)]; rfl
    · rw [if_neg g2, if_pos (by rw [a]; omega)]; rfl
theorem o_inc (z n : Int) : Int32.ofInt z + Int32.ofInt n = Int32.ofInt (w32 (z + n)) := o_add z n
