/-! what is done by hand: steps of the class -/
theorem FW_h {V W : Int → Int} (h : ∀ i, 131 ≤ i → i < 292 → V i = W i) (hV : FW V) : FW W := by
  have e := h 131 (by decide) (by decide)
  have hR := hV.1
  refine ⟨by rw [← e]; exact hV.1, fun i hi => ?_⟩
  rw [← e] at hi
  rw [← h (132 + 4 * i) (by omega) (by omega), ← h (133 + 4 * i) (by omega) (by omega), ← h (134 + 4 * i) (by omega) (by omega), ← h (135 + 4 * i) (by omega) (by omega)]
  exact hV.2 i hi
theorem RF_h {r s V W : Int → Int} (hR : 0 ≤ V 131 ∧ V 131 ≤ 40) (hr : ∀ i, 51 ≤ i → i < 92 → r i = s i) (h : ∀ i, 131 ≤ i → i < 292 → V i = W i) (hV : RF r V) : RF s W := by
  have e := h 131 (by decide) (by decide)
  refine ⟨by rw [← hr 51 (by decide) (by decide), ← e]; exact hV.1, fun i hi => ?_⟩
  rw [← e] at hi
  rw [← hr (52 + i) (by omega) (by omega), hV.2 i hi]
  unfold pkA
  rw [h (132 + 4 * i) (by omega) (by omega), h (133 + 4 * i) (by omega) (by omega), h (134 + 4 * i) (by omega) (by omega), h (135 + 4 * i) (by omega) (by omega)]
def CC (M : mM) (A : Int → Int) (ru : RU) : Prop := CV 2 M A ∧ M 63 2 = 0 ∧ CR M ru
theorem CC_CX {M : mM} {A : Int → Int} {ru : RU} (h : CC M A ru) : CX M A ru := CV_CX h.1 h.2.1 h.2.2
theorem CC_kS {M : mM} {A A' r' : Int → Int} {ru : RU} (h : CC M A ru) (hA : ∀ i, i < 80 ∨ 131 ≤ i → A' i = kpA A i) (h1 : RD r' A') (h2 : r' 49 = A' 81) (hr : ∀ i, 51 ≤ i → i < 92 → r' i = M 9 i) (h4 : WD A') (h5 : A' 81 ≤ 999) : CC (upC (kS M) 9 r') A' ru := by
  have hk := CV_keep h.1
  have e9 : kS M 9 = M 9 := kS_n (by decide) (by decide)
  have hR := hk.2.2.2.1.2.2.1
  refine ⟨CV_row hk (fun k h1 h2 h3 => upC_n h3) (fun i hi => hA i (by omega)) (by rw [upC_e]; exact h1) (by rw [upC_e]; exact h2) ?_ ⟨h4, h5, FW_h (fun i h1 h2 => (hA i (Or.inr h1)).symm) hk.2.2.2.1.2.2⟩, by rw [upC_n (by decide), kS_n (by decide) (by decide)]; exact h.2.1, CR_c h.2.2 (by rw [upC_n (by decide), kS_2 (by decide) (by decide)]) (fun k hk2 => ?_)⟩
  · rw [upC_e]
    refine RF_h hR (fun i h1 h2 => ?_) (fun i h1 h2 => (hA i (Or.inr h1)).symm) hk.2.1.2.2
    show kS M 9 i = r' i
    rw [e9, hr i h1 h2]
  · have : k ≠ 9 ∧ k ≠ 2 ∧ k ≠ 10 := by revert hk2; revert k; decide
    rw [upC_n this.1, kS_n this.2.1 this.2.2]
theorem CC_keep {M : mM} {A : Int → Int} {ru : RU} (h : CC M A ru) : CC (kS M) (kpA A) ru := by
  refine ⟨CV_keep h.1, by rw [kS_n (by decide) (by decide)]; exact h.2.1, CR_c h.2.2 (kS_2 (by decide) (by decide)) (fun k hk2 => ?_)⟩
  have : k ≠ 2 ∧ k ≠ 10 := by revert hk2; revert k; decide
  exact kS_n this.1 this.2
/-- the numbers that bound what is done -/
theorem CC_b {M : mM} {A : Int → Int} {ru : RU} (h : CC M A ru) : M 2 0 = A 0 ∧ M 2 1 = A 1 ∧ (0 ≤ A 0 ∧ A 0 ≤ 6) ∧ (0 ≤ A 1 ∧ A 1 ≤ 12) ∧ (0 ≤ M 2 10 ∧ M 2 10 < 30) ∧ (0 ≤ M 2 11 ∧ M 2 11 ≤ 30) := by
  obtain ⟨⟨k1, k2, k3, k4, k5, k6⟩, -, -⟩ := h
  have a := k5.1
  have b := k5.2.1
  exact ⟨k1.1, k1.2.1, k3.1, k3.2.1, k5.2.2.1, by omega⟩
theorem CC_r {M : mM} {A : Int → Int} {ru : RU} (h : CC M A ru) : RD (M 9) A ∧ M 9 49 = A 81 := ⟨h.1.2.1.1, h.1.2.1.2.1⟩
theorem CC_k {M : mM} {A : Int → Int} {ru : RU} (h : CC M A ru) : RD (M 9) (kpA A) ∧ M 9 49 = kpA A 81 ∧ WD (kpA A) ∧ kpA A 81 ≤ 999 ∧ kpA A 0 = A 0 ∧ kpA A 1 = A 1 := by
  have hk := CV_keep h.1
  have e9 : kS M 9 = M 9 := kS_n (by decide) (by decide)
  have h4 := h.1.2.2.2.2.1.2.1
  have e0 := kpA_lo h4 (i := 0) (by decide) (by decide)
  have e1 := kpA_lo h4 (i := 1) (by decide) (by decide)
  have a := hk.2.1.1
  have b := hk.2.1.2.1
  replace a : RD (kS M 9) (kpA A) := a
  replace b : kS M 9 49 = kpA A 81 := b
  rw [e9] at a b
  exact ⟨a, b, hk.2.2.2.1.1, hk.2.2.2.1.2.1, e0, e1⟩
abbrev QK : List Nat := [2, 9, 10]
theorem fr_kS {M : mM} {r : Int → Int} : fr QK M (upC (kS M) 9 r) := by
  intro k hk
  have : k ≠ 9 ∧ k ≠ 2 ∧ k ≠ 10 := ⟨fun e => hk (by rw [e]; decide), fun e => hk (by rw [e]; decide), fun e => hk (by rw [e]; decide)⟩
  rw [upC_n this.1, kS_n this.2.1 this.2.2]
def cGo (A : Int → Int) (l b : Int) : Prop := (0 ≤ l ∧ l < A 1) ∧ (0 ≤ b ∧ b < A 0 ∧ A (95 + b) = 0) ∧ A (107 + l) = -1
def aGo (A : Int → Int) (l b : Int) : Int → Int := mU (mU (kpA A) (107 + l) b) (119 + l) 0
def cMend (A : Int → Int) (b : Int) : Prop := (0 ≤ b ∧ b < A 0) ∧ (A (89 + b) ≠ 0 ∨ A (95 + b) ≠ 0)
def aMend (A : Int → Int) (b : Int) : Int → Int := mU (mU (kpA A) (89 + b) 0) (95 + b) 0
def cStr (A : Int → Int) (b z : Int) : Prop := (0 ≤ b ∧ b < A 0) ∧ (1 ≤ z ∧ z ≤ 60) ∧ A (83 + b) ≠ z
def aStr (A : Int → Int) (b z : Int) : Int → Int := mU (kpA A) (83 + b) z
def cFro (A : Int → Int) (z : Int) : Prop := (0 ≤ z ∧ z ≤ 9) ∧ A 80 ≠ z
def aFro (A : Int → Int) (z : Int) : Int → Int := mU (kpA A) 80 z
def cSta (A : Int → Int) (b z : Int) : Prop := (0 ≤ b ∧ b < A 0 ∧ A (95 + b) = 0) ∧ (0 ≤ z ∧ z ≤ 60) ∧ A (101 + b) ≠ z
def aSta (A : Int → Int) (b z : Int) : Int → Int := mU (kpA A) (101 + b) z
/-- a row with one more change, still well made -/
theorem RD_go {r A : Int → Int} {l b : Nat} (h : RD r A) (hl : l < 12) (hl1 : (l : Int) < A 1) : RD (mU (mU r (24 + l) b) (36 + l) 0) (mU (mU A (107 + l) b) (119 + l) 0) := by
  unfold RD at h ⊢
  rw [mU_n (show (1 : Int) ≠ 119 + l by omega), mU_n (show (1 : Int) ≠ 107 + l by omega)]
  refine ⟨fun c hc => ?_, fun k hk => ?_, ?_, ?_, ?_⟩
  · simp (disch := first | decide | omega) only [upC_e, upC_n, mU_e, mU_n]
    exact h.1 c hc
  · have q := h.2.1 k hk
    by_cases e : k = l
    · subst e
      simp (disch := first | decide | omega) only [upC_e, upC_n, mU_e, mU_n]
      exact ⟨fun _ => trivial, fun w => by omega, trivial⟩
    · simp (disch := first | decide | omega) only [upC_e, upC_n, mU_e, mU_n]
      exact q
  · simp (disch := first | decide | omega) only [upC_e, upC_n, mU_e, mU_n]
    exact h.2.2.1
  · simp (disch := first | decide | omega) only [upC_e, upC_n, mU_e, mU_n]
    exact h.2.2.2.1
  · simp (disch := first | decide | omega) only [upC_e, upC_n, mU_e, mU_n]
    exact h.2.2.2.2
theorem WD_go {A : Int → Int} {l b : Nat} (h : WD A) (hw : WS A) (hl : l < 12) (hl1 : (l : Int) < A 1) (hb : (b : Int) < A 0) : WD (mU (mU A (107 + l) b) (119 + l) 0) := by
  have w0 := hw.1
  have wl := hw.2.2.1 b (by omega)
  obtain ⟨h1, h2, h3, h4, h5⟩ := h
  refine ⟨by simp (disch := first | decide | omega) only [upC_e, upC_n, mU_e, mU_n]; exact h1, by simp (disch := first | decide | omega) only [upC_e, upC_n, mU_e, mU_n]; exact h2, by simp (disch := first | decide | omega) only [upC_e, upC_n, mU_e, mU_n]; exact h3, fun c hc => ?_, fun k hk => ?_⟩
  · simp (disch := first | decide | omega) only [upC_e, upC_n, mU_e, mU_n]
    exact h4 c hc
  · have q := h5 k hk
    by_cases e : k = l
    · subst e
      simp (disch := first | decide | omega) only [upC_e, upC_n, mU_e, mU_n]
      omega
    · rw [mU_n (show (107 : Int) + k ≠ 119 + l by omega), mU_n (show (107 : Int) + k ≠ 107 + l by omega), mU_n (show (119 : Int) + k ≠ 119 + l by omega), mU_n (show (119 : Int) + k ≠ 107 + l by omega), mU_n (show (1 : Int) ≠ 119 + l by omega), mU_n (show (1 : Int) ≠ 107 + l by omega), mU_n (show (0 : Int) ≠ 119 + l by omega), mU_n (show (0 : Int) ≠ 107 + l by omega)]
      refine ⟨q.1, q.2.1, fun x y z => ?_, q.2.2.2⟩
      rw [mU_n (by omega), mU_n (by omega)]
      exact q.2.2.1 x y z
theorem RD_b {r A : Int → Int} (b : Nat) (h : RD r A) (hb : b < 6) (p : Int → Int) (P : Int → Int) (hp : p b = P (83 + b) ∧ p (6 + b) = P (89 + b) ∧ p (12 + b) = P (95 + b) ∧ p (18 + b) = P (101 + b)) (ho : ∀ i : Int, i ≠ b → i ≠ 6 + b → i ≠ 12 + b → i ≠ 18 + b → p i = r i) (hO : ∀ i : Int, i ≠ 83 + b → i ≠ 89 + b → i ≠ 95 + b → i ≠ 101 + b → P i = A i) : RD p P := by
  unfold RD at h ⊢
  rw [hO 1 (by omega) (by omega) (by omega) (by omega), hO 80 (by omega) (by omega) (by omega) (by omega), hO 82 (by omega) (by omega) (by omega) (by omega), ho 48 (by omega) (by omega) (by omega) (by omega), ho 50 (by omega) (by omega) (by omega) (by omega), ho 51 (by omega) (by omega) (by omega) (by omega)]
  refine ⟨fun c hc => ?_, fun l hl => ?_, h.2.2⟩
  · by_cases e : c = b
    · subst e
      exact hp
    · rw [ho c (by omega) (by omega) (by omega) (by omega), ho (6 + c) (by omega) (by omega) (by omega) (by omega), ho (12 + c) (by omega) (by omega) (by omega) (by omega), ho (18 + c) (by omega) (by omega) (by omega) (by omega), hO (83 + c) (by omega) (by omega) (by omega) (by omega), hO (89 + c) (by omega) (by omega) (by omega) (by omega), hO (95 + c) (by omega) (by omega) (by omega) (by omega), hO (101 + c) (by omega) (by omega) (by omega) (by omega)]
      exact h.1 c hc
  · rw [ho (24 + l) (by omega) (by omega) (by omega) (by omega), ho (36 + l) (by omega) (by omega) (by omega) (by omega), hO (107 + l) (by omega) (by omega) (by omega) (by omega), hO (119 + l) (by omega) (by omega) (by omega) (by omega)]
    exact h.2.1 l hl
theorem WD_b {A : Int → Int} (b : Nat) (h : WD A) (hb : b < 6) (hB : (b : Int) < A 0) (P : Int → Int) (hP : (1 ≤ P (83 + b) ∧ P (83 + b) ≤ 60) ∧ (0 ≤ P (89 + b) ∧ P (89 + b) ≤ 99) ∧ (P (95 + b) = 0 ∨ P (95 + b) = 1) ∧ (P (95 + b) = 0 → P (89 + b) ≤ 98) ∧ 0 ≤ P (101 + b) ∧ P (101 + b) ≤ 60) (hO : ∀ i : Int, i ≠ 83 + b → i ≠ 89 + b → i ≠ 95 + b → i ≠ 101 + b → P i = A i) : WD P := by
  obtain ⟨h1, h2, h3, h4, h5⟩ := h
  unfold WD
  rw [hO 0 (by omega) (by omega) (by omega) (by omega), hO 1 (by omega) (by omega) (by omega) (by omega), hO 80 (by omega) (by omega) (by omega) (by omega), hO 81 (by omega) (by omega) (by omega) (by omega), hO 82 (by omega) (by omega) (by omega) (by omega)]
  refine ⟨h1, h2, h3, fun c hc => ?_, fun l hl => ?_⟩
  · by_cases e : c = b
    · subst e
      obtain ⟨p1, p2, p3, p4, p5⟩ := hP
      exact ⟨by omega, p1.2, fun _ => p1.1, fun w => by omega, p2.1, p2.2, p3, p4, p5⟩
    · rw [hO (83 + c) (by omega) (by omega) (by omega) (by omega), hO (89 + c) (by omega) (by omega) (by omega) (by omega), hO (95 + c) (by omega) (by omega) (by omega) (by omega), hO (101 + c) (by omega) (by omega) (by omega) (by omega)]
      exact h4 c hc
  · rw [hO (107 + l) (by omega) (by omega) (by omega) (by omega), hO (119 + l) (by omega) (by omega) (by omega) (by omega)]
    have q := h5 l hl
    refine ⟨q.1, q.2.1, fun x y z => ?_, q.2.2.2⟩
    rw [hO (10 + A (107 + l)) (by omega) (by omega) (by omega) (by omega)]
    exact q.2.2.1 x y z
theorem o_sendOn {d : Nat} {M : mM} {K : mQ} {A : Int → Int} {ru : RU} {l b : Int} (h : CC M A ru) (hy : cGo A l b → ∀ M', fr QK M M' → CC M' (aGo A l b) ru → K (some (vi 1)) M') (hn : ¬ cGo A l b → K (some (vi 0)) M) : mCall (d + 3) 102 [vr 2, vi l, vi b] M K := by
  obtain ⟨e0, e1, b0, b1, b2, b3⟩ := CC_b h
  obtain ⟨hr, hh⟩ := CC_r h
  rw [c_sendOn (by omega) (by omega) b2 b3, e0, e1]
  by_cases c : cGo A l b
  · obtain ⟨c1, c2, c3⟩ := c
    have hy2 := hy ⟨c1, c2, c3⟩
    obtain ⟨l, rfl⟩ := Int.eq_ofNat_of_zero_le c1.1
    obtain ⟨b, rfl⟩ := Int.eq_ofNat_of_zero_le c2.1
    have q1 := (hr.2.1 l (by omega))
    have q2 := (hr.1 b (by omega)).2.2.1
    have hwd := h.1.2.2.2.1.1.2.2.2.2 l (by omega)
    rw [if_pos ⟨⟨c1.1, c1.2, by rw [q1.1 c1.2]; exact c3⟩, c2.1, c2.2.1, by rw [q2]; exact c2.2.2⟩]
    obtain ⟨k1, k2, k3, k4, k5, k6⟩ := CC_k h
    refine hy2 _ fr_kS ?_
    have hr36 : mU (mU (M 9) (24 + (l : Int)) b) (36 + l) 0 = mU (M 9) (24 + l) b := by
      have : (0 : Int) = mU (M 9) (24 + (l : Int)) b (36 + l) := by
        rw [mU_n (by omega), q1.2.2]
        exact (hwd.2.2.2.2.2.1 c1.2 (by omega)).symm
      rw [this, mU_s]
    have hk := CV_keep h.1
    have hrd := RD_go (l := l) (b := b) k1 (by omega) (by omega)
    rw [hr36] at hrd
    refine CC_kS h (fun i hi => ?_) hrd ?_ (fun i h1 h2 => by simp (disch := first | decide | omega) only [upC_e, upC_n, mU_e, mU_n]) (WD_go k3 hk.2.2.1 (by omega) (by omega) (by omega)) ?_
    · unfold aGo
      simp (disch := first | decide | omega) only [upC_e, upC_n, mU_e, mU_n]
    · unfold aGo
      simp (disch := first | decide | omega) only [upC_e, upC_n, mU_e, mU_n]
      exact k2
    · unfold aGo
      simp (disch := first | decide | omega) only [upC_e, upC_n, mU_e, mU_n]
      exact k4
  · rw [if_neg]
    · exact hn c
    · rintro ⟨⟨c1, c2, c3⟩, c4, c5, c6⟩
      apply c
      obtain ⟨l, rfl⟩ := Int.eq_ofNat_of_zero_le c1
      obtain ⟨b, rfl⟩ := Int.eq_ofNat_of_zero_le c4
      have q1 := (hr.2.1 l (by omega)).1 c2
      have q2 := (hr.1 b (by omega)).2.2.1
      exact ⟨⟨c1, c2⟩, ⟨c4, c5, by omega⟩, by omega⟩
theorem o_repair {d : Nat} {M : mM} {K : mQ} {A : Int → Int} {ru : RU} {b : Int} (h : CC M A ru) (hy : cMend A b → ∀ M', fr QK M M' → CC M' (aMend A b) ru → K (some (vi 1)) M') (hn : ¬ cMend A b → K (some (vi 0)) M) : mCall (d + 3) 103 [vr 2, vi b] M K := by
  obtain ⟨e0, e1, b0, b1, b2, b3⟩ := CC_b h
  obtain ⟨hr, hh⟩ := CC_r h
  rw [c_repair (by omega) b2 b3, e0]
  by_cases c : cMend A b
  · have hy2 := hy c
    obtain ⟨c1, c2⟩ := c
    obtain ⟨b, rfl⟩ := Int.eq_ofNat_of_zero_le c1.1
    have q := hr.1 b (by omega)
    rw [if_pos ⟨c1, by rw [q.2.1, q.2.2.1]; exact c2⟩]
    obtain ⟨k1, k2, k3, k4, k5, k6⟩ := CC_k h
    have kb := k3.2.2.2.1 b (by omega)
    have kr := k1.1 b (by omega)
    have hA : aMend A b = mU (mU (kpA A) (89 + b) 0) (95 + b) 0 := rfl
    have p1 : aMend A b (83 + b) = kpA A (83 + b) := by rw [hA]; simp (disch := first | decide | omega) only [upC_e, upC_n, mU_e, mU_n]
    have p2 : aMend A b (89 + b) = 0 := by rw [hA]; simp (disch := first | decide | omega) only [upC_e, upC_n, mU_e, mU_n]
    have p3 : aMend A b (95 + b) = 0 := by rw [hA]; simp (disch := first | decide | omega) only [upC_e, upC_n, mU_e, mU_n]
    have p4 : aMend A b (101 + b) = kpA A (101 + b) := by rw [hA]; simp (disch := first | decide | omega) only [upC_e, upC_n, mU_e, mU_n]
    refine hy2 _ fr_kS (CC_kS h (fun i hi => by rw [hA]; simp (disch := first | decide | omega) only [upC_e, upC_n, mU_e, mU_n]) (RD_b b k1 (by omega) _ _ ⟨?_, ?_, ?_, ?_⟩ (fun i h1 h2 h3 h4 => by simp (disch := first | decide | omega) only [upC_e, upC_n, mU_e, mU_n]) (fun i h1 h2 h3 h4 => by rw [hA]; simp (disch := first | decide | omega) only [upC_e, upC_n, mU_e, mU_n])) (by rw [hA]; simp (disch := first | decide | omega) only [upC_e, upC_n, mU_e, mU_n]; exact k2) (fun i h1 h2 => by simp (disch := first | decide | omega) only [upC_e, upC_n, mU_e, mU_n]) (WD_b b k3 (by omega) (by omega) _ (by rw [p1, p2, p3, p4]; exact ⟨by omega, by omega, Or.inl rfl, fun _ => by omega, by omega, by omega⟩) (fun i h1 h2 h3 h4 => by rw [hA]; simp (disch := first | decide | omega) only [upC_e, upC_n, mU_e, mU_n])) (by rw [hA]; simp (disch := first | decide | omega) only [upC_e, upC_n, mU_e, mU_n]; exact k4))
    all_goals rw [hA]
    all_goals simp (disch := first | decide | omega) only [upC_e, upC_n, mU_e, mU_n]
    · exact kr.1
    · exact kr.2.2.2
  · rw [if_neg]
    · exact hn c
    · rintro ⟨⟨c1, c2⟩, c3⟩
      apply c
      obtain ⟨b, rfl⟩ := Int.eq_ofNat_of_zero_le c1
      have q := hr.1 b (by omega)
      exact ⟨⟨c1, c2⟩, by rw [← q.2.1, ← q.2.2.1]; exact c3⟩
theorem o_restring {d : Nat} {M : mM} {K : mQ} {A : Int → Int} {ru : RU} {b z : Int} (h : CC M A ru) (hy : cStr A b z → ∀ M', fr QK M M' → CC M' (aStr A b z) ru → K (some (vi 1)) M') (hn : ¬ cStr A b z → K (some (vi 0)) M) : mCall (d + 3) 104 [vr 2, vi b, vi z] M K := by
  obtain ⟨e0, e1, b0, b1, b2, b3⟩ := CC_b h
  obtain ⟨hr, hh⟩ := CC_r h
  rw [c_restring (by omega) b2 b3, e0]
  by_cases c : cStr A b z
  · have hy2 := hy c
    obtain ⟨c1, c2, c3⟩ := c
    obtain ⟨b, rfl⟩ := Int.eq_ofNat_of_zero_le c1.1
    have q := hr.1 b (by omega)
    rw [if_pos ⟨c1, c2, by rw [q.1]; exact c3⟩]
    obtain ⟨k1, k2, k3, k4, k5, k6⟩ := CC_k h
    have kb := k3.2.2.2.1 b (by omega)
    have kr := k1.1 b (by omega)
    have hA : aStr A b z = mU (kpA A) (83 + b) z := rfl
    refine hy2 _ fr_kS (CC_kS h (fun i hi => by rw [hA]; simp (disch := first | decide | omega) only [upC_e, upC_n, mU_e, mU_n]) (RD_b b k1 (by omega) _ _ ⟨?_, ?_, ?_, ?_⟩ (fun i h1 h2 h3 h4 => by simp (disch := first | decide | omega) only [upC_e, upC_n, mU_e, mU_n]) (fun i h1 h2 h3 h4 => by rw [hA]; simp (disch := first | decide | omega) only [upC_e, upC_n, mU_e, mU_n])) (by rw [hA]; simp (disch := first | decide | omega) only [upC_e, upC_n, mU_e, mU_n]; exact k2) (fun i h1 h2 => by simp (disch := first | decide | omega) only [upC_e, upC_n, mU_e, mU_n]) (WD_b b k3 (by omega) (by omega) _ (by rw [hA]; simp (disch := first | decide | omega) only [upC_e, upC_n, mU_e, mU_n]; omega) (fun i h1 h2 h3 h4 => by rw [hA]; simp (disch := first | decide | omega) only [upC_e, upC_n, mU_e, mU_n])) (by rw [hA]; simp (disch := first | decide | omega) only [upC_e, upC_n, mU_e, mU_n]; exact k4))
    all_goals rw [hA]
    all_goals simp (disch := first | decide | omega) only [upC_e, upC_n, mU_e, mU_n]
    · exact kr.2.1
    · exact kr.2.2.1
    · exact kr.2.2.2
  · rw [if_neg]
    · exact hn c
    · rintro ⟨⟨c1, c2⟩, c3, c4⟩
      apply c
      obtain ⟨b, rfl⟩ := Int.eq_ofNat_of_zero_le c1
      have q := hr.1 b (by omega)
      exact ⟨⟨c1, c2⟩, c3, by rw [← q.1]; exact c4⟩
theorem o_post {d : Nat} {M : mM} {K : mQ} {A : Int → Int} {ru : RU} {b z : Int} (h : CC M A ru) (hy : cSta A b z → ∀ M', fr QK M M' → CC M' (aSta A b z) ru → K (some (vi 1)) M') (hn : ¬ cSta A b z → K (some (vi 0)) M) : mCall (d + 3) 106 [vr 2, vi b, vi z] M K := by
  obtain ⟨e0, e1, b0, b1, b2, b3⟩ := CC_b h
  obtain ⟨hr, hh⟩ := CC_r h
  rw [c_post (by omega) b2 b3, e0]
  by_cases c : cSta A b z
  · have hy2 := hy c
    obtain ⟨c1, c2, c3⟩ := c
    obtain ⟨b, rfl⟩ := Int.eq_ofNat_of_zero_le c1.1
    have q := hr.1 b (by omega)
    rw [if_pos ⟨⟨c1.1, c1.2.1, by rw [q.2.2.1]; exact c1.2.2⟩, c2, by rw [q.2.2.2]; exact c3⟩]
    obtain ⟨k1, k2, k3, k4, k5, k6⟩ := CC_k h
    have kb := k3.2.2.2.1 b (by omega)
    have kr := k1.1 b (by omega)
    have hA : aSta A b z = mU (kpA A) (101 + b) z := rfl
    refine hy2 _ fr_kS (CC_kS h (fun i hi => by rw [hA]; simp (disch := first | decide | omega) only [upC_e, upC_n, mU_e, mU_n]) (RD_b b k1 (by omega) _ _ ⟨?_, ?_, ?_, ?_⟩ (fun i h1 h2 h3 h4 => by simp (disch := first | decide | omega) only [upC_e, upC_n, mU_e, mU_n]) (fun i h1 h2 h3 h4 => by rw [hA]; simp (disch := first | decide | omega) only [upC_e, upC_n, mU_e, mU_n])) (by rw [hA]; simp (disch := first | decide | omega) only [upC_e, upC_n, mU_e, mU_n]; exact k2) (fun i h1 h2 => by simp (disch := first | decide | omega) only [upC_e, upC_n, mU_e, mU_n]) (WD_b b k3 (by omega) (by omega) _ (by rw [hA]; simp (disch := first | decide | omega) only [upC_e, upC_n, mU_e, mU_n]; omega) (fun i h1 h2 h3 h4 => by rw [hA]; simp (disch := first | decide | omega) only [upC_e, upC_n, mU_e, mU_n])) (by rw [hA]; simp (disch := first | decide | omega) only [upC_e, upC_n, mU_e, mU_n]; exact k4))
    all_goals rw [hA]
    all_goals simp (disch := first | decide | omega) only [upC_e, upC_n, mU_e, mU_n]
    · exact kr.1
    · exact kr.2.1
    · exact kr.2.2.1
  · rw [if_neg]
    · exact hn c
    · rintro ⟨⟨c1, c2, c5⟩, c3, c4⟩
      apply c
      obtain ⟨b, rfl⟩ := Int.eq_ofNat_of_zero_le c1
      have q := hr.1 b (by omega)
      exact ⟨⟨c1, c2, by rw [← q.2.2.1]; exact c5⟩, c3, by rw [← q.2.2.2]; exact c4⟩
theorem RD_48 {r A : Int → Int} {z : Int} (h : RD r A) : RD (mU r 48 z) (mU A 80 z) := by
  unfold RD at h ⊢
  rw [mU_n (show (1 : Int) ≠ 80 by omega)]
  refine ⟨fun c hc => ?_, fun k hk => ?_, ?_, ?_, ?_⟩
  · simp (disch := first | decide | omega) only [upC_e, upC_n, mU_e, mU_n]
    exact h.1 c hc
  · simp (disch := first | decide | omega) only [upC_e, upC_n, mU_e, mU_n]
    exact h.2.1 k hk
  · simp (disch := first | decide | omega) only [upC_e, upC_n, mU_e, mU_n]
  · simp (disch := first | decide | omega) only [upC_e, upC_n, mU_e, mU_n]
    exact h.2.2.2.1
  · simp (disch := first | decide | omega) only [upC_e, upC_n, mU_e, mU_n]
    exact h.2.2.2.2
theorem WD_48 {A : Int → Int} {z : Int} (h : WD A) (hz : 0 ≤ z ∧ z ≤ 9) : WD (mU A 80 z) := by
  obtain ⟨h1, h2, h3, h4, h5⟩ := h
  refine ⟨by simp (disch := first | decide | omega) only [upC_e, upC_n, mU_e, mU_n]; exact hz, by simp (disch := first | decide | omega) only [upC_e, upC_n, mU_e, mU_n]; exact h2, by simp (disch := first | decide | omega) only [upC_e, upC_n, mU_e, mU_n]; exact h3, fun c hc => ?_, fun k hk => ?_⟩
  · simp (disch := first | decide | omega) only [upC_e, upC_n, mU_e, mU_n]
    exact h4 c hc
  · have q := h5 k hk
    rw [mU_n (show (107 : Int) + k ≠ 80 by omega), mU_n (show (119 : Int) + k ≠ 80 by omega), mU_n (show (0 : Int) ≠ 80 by omega), mU_n (show (1 : Int) ≠ 80 by omega)]
    refine ⟨q.1, q.2.1, fun x y z => ?_, q.2.2.2⟩
    rw [mU_n (by omega)]
    exact q.2.2.1 x y z
theorem o_freeze {d : Nat} {M : mM} {K : mQ} {A : Int → Int} {ru : RU} {z : Int} (h : CC M A ru) (hy : cFro A z → ∀ M', fr QK M M' → CC M' (aFro A z) ru → K (some (vi 1)) M') (hn : ¬ cFro A z → K (some (vi 0)) M) : mCall (d + 3) 105 [vr 2, vi z] M K := by
  obtain ⟨e0, e1, b0, b1, b2, b3⟩ := CC_b h
  obtain ⟨hr, hh⟩ := CC_r h
  rw [c_freeze b2 b3, hr.2.2.1]
  by_cases c : cFro A z
  · have hy2 := hy c
    rw [if_pos (show (0 ≤ z ∧ z ≤ 9) ∧ A 80 ≠ z from c)]
    obtain ⟨k1, k2, k3, k4, k5, k6⟩ := CC_k h
    have hA : aFro A z = mU (kpA A) 80 z := rfl
    refine hy2 _ fr_kS (CC_kS h (fun i hi => by rw [hA]; simp (disch := first | decide | omega) only [upC_e, upC_n, mU_e, mU_n]) (by rw [hA]; exact RD_48 k1) (by rw [hA]; simp (disch := first | decide | omega) only [upC_e, upC_n, mU_e, mU_n]; exact k2) (fun i h1 h2 => by simp (disch := first | decide | omega) only [upC_e, upC_n, mU_e, mU_n]) (by rw [hA]; exact WD_48 k3 c.1) (by rw [hA]; simp (disch := first | decide | omega) only [upC_e, upC_n, mU_e, mU_n]; exact k4))
  · rw [if_neg (show ¬ ((0 ≤ z ∧ z ≤ 9) ∧ A 80 ≠ z) from c)]
    exact hn c
