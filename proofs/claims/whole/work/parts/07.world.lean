/-! the small machine's memory as cells of the Java machine -/
abbrev mG : Type := (Nat → ClassId) × (Nat → Nat → Nat) × (Nat → Nat) × Option Nat × (Nat → ClassId)
def al (G : mG) (k : Nat) : Option Nat := if k = 0 then none else if k = 151 then G.2.2.2.1 else some (G.2.2.1 k)
def cv (G : mG) : mV → Value
  | .inl z => .int (Int32.ofInt z)
  | .inr (.inl z) => .long (Int64.ofInt z)
  | .inr (.inr k) => va_rf (al G k)
def okV : mV → Prop
  | .inl z => R32 z
  | .inr (.inl z) => R64 z
  | .inr (.inr _) => True
def okc (k : Nat) (g : Int → Int) : Prop := ∀ i, (ak k = 4 → R64 (g i)) ∧ (ak k ≠ 4 → R32 (g i))
def okM (M : mM) : Prop := ∀ k, okc k (M k)
def fV (G : mG) (k : Nat) (g : Int → Int) (t f : Nat) : Value := if t = 2 then va_rf (al G (rf k f)) else if t = 3 then va_rf (al G (g f).toNat) else .int (Int32.ofInt (g f))
def wF (G : mG) (k : Nat) (g : Int → Int) (c : Nat) : List Value := (List.range (nFl c)).map fun f => fV G k g (fk c f) f
def wE (G : mG) (k : Nat) (g : Int → Int) : va_E := if ak k = 1 then .inr (aln k, wF G k g (aln k)) else if ak k = 4 then .inl (G.2.2.2.2 4, aln k, .inr (.inl fun i => Int64.ofInt (g i))) else if ak k = 6 then .inl (G.2.2.2.2 6, aln k, .inr (.inr (.inr (.inr fun i => al G (rf k i))))) else .inl (G.2.2.2.2 (ak k), aln k, .inl fun i => Int32.ofInt (g i))
def wW (G : mG) (M : mM) : va_W := (List.range 141).map fun i => (G.2.2.1 (i + 1), wE G (i + 1) (M (i + 1)))
def wTy (G : mG) : List (ClassId × FieldType) := [(G.2.2.2.2 2, .int), (G.2.2.2.2 3, .byte), (G.2.2.2.2 4, .long), (G.2.2.2.2 5, .boolean), (G.2.2.2.2 6, .object "HummingBridges$Score")]
def wA (G : mG) : Nat → Prop := fun q => ∃ k, 1 ≤ k ∧ k ≤ 141 ∧ q = G.2.2.1 k
def wI (G : mG) : Prop := ∀ i j, 1 ≤ i → i ≤ 141 → 1 ≤ j → j ≤ 141 → G.2.2.1 i = G.2.2.1 j → i = j
theorem wW_at (G : mG) (M : mM) {k : Nat} (h1 : 1 ≤ k) (h2 : k ≤ 141) : (wW G M)[k - 1]? = some (G.2.2.1 k, wE G k (M k)) := by
  unfold wW
  rw [List.getElem?_map, List.getElem?_range (by omega), show (some (k - 1)).map (fun i => (G.2.2.1 (i + 1), wE G (i + 1) (M (i + 1)))) = some (G.2.2.1 (k - 1 + 1), wE G (k - 1 + 1) (M (k - 1 + 1))) from rfl, Nat.sub_add_cancel h1]
theorem wW_inv {G : mG} {M : mM} {i : Nat} {q : Nat × va_E} (h : (wW G M)[i]? = some q) : i < 141 ∧ q = (G.2.2.1 (i + 1), wE G (i + 1) (M (i + 1))) := by
  unfold wW at h
  rw [List.getElem?_map] at h
  by_cases g : i < 141
  · rw [List.getElem?_range g] at h
    exact ⟨g, (Option.some.inj h).symm⟩
  · rw [List.getElem?_eq_none (by rw [List.length_range]; omega)] at h
    cases h
theorem wW_set (G : mG) (M : mM) {k : Nat} (h1 : 1 ≤ k) (h2 : k ≤ 141) (g : Int → Int) : (wW G M).set (k - 1) (G.2.2.1 k, wE G k g) = wW G (upC M k g) := by
  apply List.ext_getElem?
  intro i
  rw [List.getElem?_set]
  by_cases e : k - 1 = i
  · subst e
    rw [if_pos rfl, wW_at G (upC M k g) h1 h2, upC_e, if_pos]
    unfold wW
    rw [List.length_map, List.length_range]
    omega
  · rw [if_neg e]
    by_cases g2 : i < 141
    · have a := wW_at G M (k := i + 1) (by omega) (by omega)
      have b := wW_at G (upC M k g) (k := i + 1) (by omega) (by omega)
      rw [upC_n (by omega)] at b
      exact a.trans b.symm
    · unfold wW
      rw [List.getElem?_map, List.getElem?_map, List.getElem?_eq_none (by rw [List.length_range]; omega)]
      rfl
theorem wW_D {G : mG} {A : Nat → Prop} (hI : wI G) (hA : ∀ q, wA G q → A q) (M : mM) : va_D A (wW G M) := by
  refine ⟨fun i j p q hi hj e => ?_, fun k q hk => ?_⟩
  · obtain ⟨a1, rfl⟩ := wW_inv hi
    obtain ⟨b1, rfl⟩ := wW_inv hj
    have := hI (i + 1) (j + 1) (by omega) (by omega) (by omega) (by omega) e
    omega
  · obtain ⟨a1, rfl⟩ := wW_inv hk
    exact hA _ ⟨k + 1, by omega, by omega, rfl⟩
-- locals
def mLl (G : mG) (lv : mL) (nL : Nat) : List (Nat × Value) := (List.range nL).filterMap fun i => (lv i).map fun v => (i, cv G v)
theorem mLl_in {G : mG} {lv : mL} {nL i : Nat} {v : mV} (h : lv i = some v) (hi : i < nL) : (i, cv G v) ∈ mLl G lv nL :=
  List.mem_filterMap.mpr ⟨i, List.mem_range.mpr hi, by rw [h]; rfl⟩
theorem mLl_of {G : mG} {lv : mL} {nL : Nat} {q : Nat × Value} (h : q ∈ mLl G lv nL) : ∃ v, lv q.1 = some v ∧ q.2 = cv G v ∧ q.1 < nL := by
  obtain ⟨i, hi, e⟩ := List.mem_filterMap.mp h
  cases hv : lv i with
  | none => rw [hv] at e; cases e
  | some v =>
    rw [hv] at e
    have : (i, cv G v) = q := Option.some.inj e
    subst this
    exact ⟨v, hv, rfl, List.mem_range.mp hi⟩
theorem cv_cat (G : mG) (v : mV) : (cv G v).category = mcw v := by
  rcases v with z | z | k
  · rfl
  · rfl
  · show (va_rf (al G k)).category = 1
    cases al G k <;> rfl
theorem cv_cats (G : mG) (st : List mV) : ((st.map (cv G)).map fun v => v.category).sum = mcat st := by
  induction st with
  | nil => rfl
  | cons v r ih =>
    show (cv G v).category + ((r.map (cv G)).map fun v => v.category).sum = mcw v + mcat r
    rw [cv_cat, ih]
theorem mLl_get {G : mG} {lv : mL} {ls : Array Slot} {nL i : Nat} {v : mV} (h : lv_has ls nL (mLl G lv nL)) (hv : lv i = some v) (hi : i < nL) : ls[i]? = some (.val (cv G v)) := h.2.2 _ (mLl_in hv hi)
theorem mLl_s1 {G : mG} {lv : mL} {ls : Array Slot} {nL i : Nat} {v : mV} (h : lv_has ls nL ((i, cv G v) :: (mLl G lv nL).filter (fun q => !(q.1 == i) && !(q.1 + 1 == i && q.2.category == 2)))) : lv_has ls nL (mLl G (s1 lv i v) nL) := by
  refine ⟨h.1, h.2.1, fun q hq => ?_⟩
  obtain ⟨w, h1, h2, h3⟩ := mLl_of hq
  obtain ⟨k, y⟩ := q
  dsimp only at h1 h2 h3
  subst h2
  unfold s1 at h1
  by_cases e : k = i
  · rw [if_pos e] at h1
    cases h1
    subst e
    exact h.2.2 _ List.mem_cons_self
  · rw [if_neg e] at h1
    by_cases e2 : k + 1 = i ∧ xlong (lv k) = true
    · rw [if_pos e2] at h1; cases h1
    · rw [if_neg e2] at h1
      refine h.2.2 _ (List.mem_cons_of_mem _ (List.mem_filter.mpr ⟨mLl_in h1 h3, ?_⟩))
      have : ¬ (k + 1 = i ∧ (cv G w).category = 2) := by
        rintro ⟨a, b⟩
        apply e2
        refine ⟨a, ?_⟩
        rw [h1]
        rw [cv_cat] at b
        rcases w with z | z | z
        · cases b
        · rfl
        · cases b
      simp only [Bool.and_eq_true, Bool.not_eq_true', beq_eq_false_iff_ne, ne_eq, Bool.and_eq_false_iff]
      refine ⟨e, ?_⟩
      by_cases f : k + 1 = i
      · right; intro g; exact this ⟨f, g⟩
      · left; exact f
theorem mLl_s2 {G : mG} {lv : mL} {ls : Array Slot} {nL i : Nat} {v : mV} (h : lv_has ls nL ((i, cv G v) :: (mLl G lv nL).filter (fun q => !(q.1 == i) && (!(q.1 == i + 1) && !(q.1 + 1 == i && q.2.category == 2))))) : lv_has ls nL (mLl G (s2 lv i v) nL) := by
  refine ⟨h.1, h.2.1, fun q hq => ?_⟩
  obtain ⟨w, h1, h2, h3⟩ := mLl_of hq
  obtain ⟨k, y⟩ := q
  dsimp only at h1 h2 h3
  subst h2
  unfold s2 at h1
  by_cases e : k = i
  · rw [if_pos e] at h1
    cases h1
    subst e
    exact h.2.2 _ List.mem_cons_self
  · rw [if_neg e] at h1
    by_cases e1 : k = i + 1
    · rw [if_pos e1] at h1; cases h1
    · rw [if_neg e1] at h1
      by_cases e2 : k + 1 = i ∧ xlong (lv k) = true
      · rw [if_pos e2] at h1; cases h1
      · rw [if_neg e2] at h1
        refine h.2.2 _ (List.mem_cons_of_mem _ (List.mem_filter.mpr ⟨mLl_in h1 h3, ?_⟩))
        have : ¬ (k + 1 = i ∧ (cv G w).category = 2) := by
          rintro ⟨a, b⟩
          apply e2
          refine ⟨a, ?_⟩
          rw [h1]
          rw [cv_cat] at b
          rcases w with z | z | z
          · cases b
          · rfl
          · cases b
        simp only [Bool.and_eq_true, Bool.not_eq_true', beq_eq_false_iff_ne, ne_eq, Bool.and_eq_false_iff]
        refine ⟨e, e1, ?_⟩
        by_cases f : k + 1 = i
        · right; intro g; exact this ⟨f, g⟩
        · left; exact f
theorem mEn_args (G : mG) : ∀ (a : List mV) (i k : Nat) (v : mV), mEn i a k = some v → (k, cv G v) ∈ lv_args i (a.map (cv G))
  | [], _, _, _, h => by cases h
  | u :: r, i, k, v, h => by
    rw [mEn_c] at h
    show (k, cv G v) ∈ (i, cv G u) :: lv_args (if (cv G u).category = 2 then i + 2 else i + 1) (r.map (cv G))
    by_cases e : k = i
    · rw [if_pos e] at h
      cases h
      rw [e]
      exact List.mem_cons_self
    · rw [if_neg e] at h
      refine List.mem_cons_of_mem _ ?_
      have := mEn_args G r _ _ _ h
      rw [cv_cat]
      rcases u with z | z | z
      · exact this
      · exact this
      · exact this
theorem mEn_lt : ∀ (a : List mV) (i k : Nat) (v : mV), mEn i a k = some v → k < i + mcat a ∧ v ∈ a
  | [], _, _, _, h => by cases h
  | u :: r, i, k, v, h => by
    rw [mEn_c] at h
    have hu : 1 ≤ mcw u := by rcases u with z | z | z <;> simp [mcw]
    show k < i + (mcw u + mcat r) ∧ _
    by_cases e : k = i
    · rw [if_pos e] at h
      cases h
      exact ⟨by omega, List.mem_cons_self⟩
    · rw [if_neg e] at h
      have := mEn_lt r _ _ _ h
      exact ⟨by omega, List.mem_cons_of_mem _ this.2⟩
theorem sl_len (G : mG) (a : List mV) : (lg_sl (a.map (cv G))).length = mcat a := by
  induction a with
  | nil => rfl
  | cons u r ih =>
    show ((if (cv G u).category = 2 then [Slot.val (cv G u), .second] else [.val (cv G u)]) ++ lg_sl (r.map (cv G))).length = mcw u + mcat r
    rw [List.length_append, ih, cv_cat]
    rcases u with z | z | z <;> rfl
theorem mEn_has (G : mG) (a : List mV) {n : Nat} (h : mcat a ≤ n) : lv_has ((lg_sl (a.map (cv G)) ++ List.replicate (n - (lg_sl (a.map (cv G))).length) Slot.unset).toArray) n (mLl G (mEn 0 a) n) := by
  have h0 := lv_entry (a.map (cv G)) (n := n) (by rw [sl_len]; exact h)
  refine ⟨h0.1, h0.2.1, fun q hq => ?_⟩
  obtain ⟨w, h1, h2, h3⟩ := mLl_of hq
  obtain ⟨k, y⟩ := q
  dsimp only at h1 h2
  subst h2
  exact h0.2.2 _ (mEn_args G a 0 k w h1)
-- fields
theorem wF_at (G : mG) (k : Nat) (g : Int → Int) {c f : Nat} (h : f < nFl c) : (wF G k g c)[f]? = some (fV G k g (fk c f) f) := by
  unfold wF
  rw [List.getElem?_map, List.getElem?_range h]
  rfl
theorem wF_len (G : mG) (k : Nat) (g : Int → Int) (c : Nat) : (wF G k g c).length = nFl c := by
  unfold wF
  rw [List.length_map, List.length_range]
theorem wF_set (G : mG) (k : Nat) (g : Int → Int) {c f : Nat} (h : f < nFl c) (v : Int) : (wF G k g c).set f (fV G k (mU g f v) (fk c f) f) = wF G k (mU g f v) c := by
  apply List.ext_getElem?
  intro i
  rw [List.getElem?_set]
  by_cases e : f = i
  · subst e
    rw [if_pos rfl, wF_at G k (mU g f v) h, if_pos (by rw [wF_len]; exact h)]
  · rw [if_neg e]
    by_cases g2 : i < nFl c
    · rw [wF_at G k g g2, wF_at G k (mU g f v) g2]
      congr 1
      unfold fV
      rw [mU_n (show ((i : Nat) : Int) ≠ (f : Int) by omega)]
    · rw [List.getElem?_eq_none (by rw [wF_len]; omega), List.getElem?_eq_none (by rw [wF_len]; omega)]
