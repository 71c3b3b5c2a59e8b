/-! the state, whole: the class's valley beside the reference's row -/
def vw (A : Int → Int) (p : Int) : Int → Int := fun i => if i < 80 then A i else A (p + (i - 80))
def SW (r told V : Int → Int) : Prop := (∀ b : Nat, b < 6 → ((b : Int) < V 0 → (if r b = 0 then told b else r b) = V (83 + b)) ∧ (V 0 ≤ b → r b = 0) ∧ r (6 + b) = V (89 + b) ∧ r (12 + b) = V (95 + b) ∧ r (18 + b) = V (101 + b)) ∧ (∀ l : Nat, l < 12 → ((l : Int) < V 1 → r (24 + l) = V (107 + l)) ∧ (V 1 ≤ l → r (24 + l) = -1) ∧ r (36 + l) = V (119 + l)) ∧ r 48 = V 80 ∧ r 49 = V 81 ∧ r 50 = V 82 ∧ RF r V
def VW (V : Int → Int) : Prop := WD V ∧ V 81 ≤ 999 ∧ FW V
def SQ (B : Nat) (M : mM) (A : Int → Int) : Prop := M B 11 = A 4 ∧ (0 ≤ A 4 ∧ A 4 ≤ 30) ∧ (0 ≤ M B 10 ∧ M B 10 < 30) ∧ ∀ k : Nat, (k : Int) < A 4 → SW (fun i => M (B + 8) ((M B 10 + k) % 30 * 92 + i)) (M (B + 1)) (vw A (300 + 212 * k)) ∧ VW (vw A (300 + 212 * k))
def MI (B : Nat) (M : mM) (A : Int → Int) : Prop := (∀ b : Nat, b < 6 → (b : Int) < A 0 → 1 ≤ M (B + 1) b ∧ M (B + 1) b ≤ 60) ∧ (M B 14 = A 5 ∧ 0 ≤ A 5 ∧ A 5 ≤ 6) ∧ (M B 16 = A 6 ∧ 0 ≤ A 6 ∧ A 6 ≤ 6) ∧ (M B 17 = A 2 ∧ 0 ≤ A 2 ∧ A 2 ≤ 4) ∧ (M B 18 = A 3 ∧ -1 ≤ A 3 ∧ A 3 < A 2) ∧ (∀ k : Nat, k < 6 → M (B + 9) k = A (58 + 2 * k) ∧ M (B + 10) k = A (59 + 2 * k) ∧ ((k : Int) < A 5 → 0 ≤ A (58 + 2 * k) ∧ A (58 + 2 * k) < A 0 ∧ 0 ≤ A (59 + 2 * k) ∧ A (59 + 2 * k) ≤ 999)) ∧ (∀ k : Nat, k < 6 → M (B + 11) k = A (70 + k) ∧ ((k : Int) < A 6 → 1 ≤ A (70 + k) ∧ A (70 + k) ≤ 999))
def CV (B : Nat) (M : mM) (A : Int → Int) : Prop := SV B M A ∧ (RD (M (B + 7)) A ∧ M (B + 7) 49 = A 81 ∧ RF (M (B + 7)) A) ∧ WS A ∧ VW A ∧ SQ B M A ∧ MI B M A
/-- what these words look at -/
theorem WD_g {V W : Int → Int} (h : ∀ i, 0 ≤ i → i < 292 → i ≠ 4 → V i = W i) (hV : WD V) : WD W := by
  obtain ⟨h1, h2, h3, h4, h5⟩ := hV
  have e0 := h 0 (by decide) (by decide) (by decide)
  have e1 := h 1 (by decide) (by decide) (by decide)
  refine ⟨by rw [← h 80 (by decide) (by decide) (by decide)]; exact h1, by rw [← h 81 (by decide) (by decide) (by decide)]; exact h2, by rw [← h 82 (by decide) (by decide) (by decide)]; exact h3, fun b hb => ?_, fun l hl => ?_⟩
  · rw [← h (83 + b) (by omega) (by omega) (by omega), ← h (89 + b) (by omega) (by omega) (by omega), ← h (95 + b) (by omega) (by omega) (by omega), ← h (101 + b) (by omega) (by omega) (by omega), ← e0]
    exact h4 b hb
  · rw [← h (107 + l) (by omega) (by omega) (by omega), ← h (119 + l) (by omega) (by omega) (by omega), ← e0, ← e1]
    have q := h5 l hl
    refine ⟨q.1, q.2.1, fun a b c => ?_, q.2.2.2⟩
    rw [← h (10 + V (107 + l)) (by omega) (by omega) (by omega)]
    exact q.2.2.1 a b c
theorem RF_g {r s V W : Int → Int} (hR : 0 ≤ V 131 ∧ V 131 ≤ 40) (hr : ∀ i, 0 ≤ i → i < 92 → r i = s i) (h : ∀ i, 0 ≤ i → i < 292 → i ≠ 4 → V i = W i) (hV : RF r V) : RF s W := by
  have e := h 131 (by decide) (by decide) (by decide)
  refine ⟨by rw [← hr 51 (by decide) (by decide), ← e]; exact hV.1, fun i hi => ?_⟩
  rw [← e] at hi
  rw [← hr (52 + i) (by omega) (by omega), hV.2 i hi]
  unfold pkA
  rw [h (132 + 4 * i) (by omega) (by omega) (by omega), h (133 + 4 * i) (by omega) (by omega) (by omega), h (134 + 4 * i) (by omega) (by omega) (by omega), h (135 + 4 * i) (by omega) (by omega) (by omega)]
theorem FW_g {V W : Int → Int} (h : ∀ i, 0 ≤ i → i < 292 → i ≠ 4 → V i = W i) (hV : FW V) : FW W := by
  have e := h 131 (by decide) (by decide) (by decide)
  have hR := hV.1
  refine ⟨by rw [← e]; exact hV.1, fun i hi => ?_⟩
  rw [← e] at hi
  rw [← h (132 + 4 * i) (by omega) (by omega) (by omega), ← h (133 + 4 * i) (by omega) (by omega) (by omega), ← h (134 + 4 * i) (by omega) (by omega) (by omega), ← h (135 + 4 * i) (by omega) (by omega) (by omega)]
  exact hV.2 i hi
theorem VW_g {V W : Int → Int} (h : ∀ i, 0 ≤ i → i < 292 → i ≠ 4 → V i = W i) (hV : VW V) : VW W := ⟨WD_g h hV.1, by rw [← h 81 (by decide) (by decide) (by decide)]; exact hV.2.1, FW_g h hV.2.2⟩
theorem SW_g {r s t u V W : Int → Int} (hR : 0 ≤ V 131 ∧ V 131 ≤ 40) (hr : ∀ i, 0 ≤ i → i < 92 → r i = s i) (ht : ∀ b : Nat, b < 6 → (b : Int) < V 0 → t b = u b) (h : ∀ i, 0 ≤ i → i < 292 → i ≠ 4 → V i = W i) (hV : SW r t V) : SW s u W := by
  obtain ⟨h1, h2, h3, h4, h5, h6⟩ := hV
  have e0 := h 0 (by decide) (by decide) (by decide)
  have e1 := h 1 (by decide) (by decide) (by decide)
  refine ⟨fun b hb => ?_, fun l hl => ?_, by rw [← hr 48 (by decide) (by decide), ← h 80 (by decide) (by decide) (by decide)]; exact h3, by rw [← hr 49 (by decide) (by decide), ← h 81 (by decide) (by decide) (by decide)]; exact h4, by rw [← hr 50 (by decide) (by decide), ← h 82 (by decide) (by decide) (by decide)]; exact h5, RF_g hR hr h h6⟩
  · rw [← h (83 + b) (by omega) (by omega) (by omega), ← h (89 + b) (by omega) (by omega) (by omega), ← h (95 + b) (by omega) (by omega) (by omega), ← h (101 + b) (by omega) (by omega) (by omega), ← e0, ← hr b (by omega) (by omega), ← hr (6 + b) (by omega) (by omega), ← hr (12 + b) (by omega) (by omega), ← hr (18 + b) (by omega) (by omega)]
    have q := h1 b hb
    refine ⟨fun g => ?_, q.2⟩
    rw [← ht b hb g]
    exact q.1 g
  · rw [← h (107 + l) (by omega) (by omega) (by omega), ← h (119 + l) (by omega) (by omega) (by omega), ← e1, ← hr (24 + l) (by omega) (by omega), ← hr (36 + l) (by omega) (by omega)]
    exact h2 l hl
theorem CV_c {B : Nat} {M M' : mM} {A : Int → Int} (h : CV B M A) (e : ∀ k, B ≤ k → k ≤ B + 11 → M' k = M k) : CV B M' A := by
  unfold CV SV SQ MI at h ⊢
  rw [e B (by omega) (by omega), e (B + 1) (by omega) (by omega), e (B + 2) (by omega) (by omega), e (B + 3) (by omega) (by omega), e (B + 4) (by omega) (by omega), e (B + 5) (by omega) (by omega), e (B + 6) (by omega) (by omega), e (B + 7) (by omega) (by omega), e (B + 8) (by omega) (by omega), e (B + 9) (by omega) (by omega), e (B + 10) (by omega) (by omega), e (B + 11) (by omega) (by omega)]
  exact h
theorem CV_CX {M : mM} {A : Int → Int} {ru : RU} (h : CV 2 M A) (ha : M 63 2 = 0) (hr : CR M ru) : CX M A ru := by
  obtain ⟨h1, ⟨h2, h3, h4⟩, h5, h6, -, -⟩ := h
  have w := h6.1.2.1
  replace h3 : M 9 49 = A 81 := h3
  exact ⟨h1, h2, ⟨by omega, by omega, by omega, by omega, by omega⟩, h5, h6.1, hr⟩
/-- another row: all beside it as it was -/
theorem CV_row {M M' : mM} {A A' : Int → Int} (h : CV 2 M A) (e : ∀ k, 2 ≤ k → k ≤ 13 → k ≠ 9 → M' k = M k) (hA : ∀ i, i < 80 ∨ 292 ≤ i → A' i = A i) (h1 : RD (M' 9) A') (h2 : M' 9 49 = A' 81) (h3 : RF (M' 9) A') (h4 : VW A') : CV 2 M' A' := by
  obtain ⟨k1, -, k3, k4, k5, k6⟩ := h
  have hv : ∀ k : Nat, vw A' (300 + 212 * k) = vw A (300 + 212 * k) := by
    intro k
    funext i
    unfold vw
    by_cases g : i < 80
    · rw [if_pos g, if_pos g, hA i (Or.inl g)]
    · rw [if_neg g, if_neg g, hA _ (Or.inr (by omega))]
  refine ⟨?_, ⟨h1, h2, h3⟩, ?_, h4, ?_, ?_⟩
  · unfold SV at k1 ⊢
    rw [e 2 (by decide) (by decide) (by decide), e (2 + 2) (by decide) (by decide) (by decide), e (2 + 3) (by decide) (by decide) (by decide), e (2 + 4) (by decide) (by decide) (by decide), e (2 + 5) (by decide) (by decide) (by decide), e (2 + 6) (by decide) (by decide) (by decide), hA 0 (by decide), hA 1 (by decide)]
    refine ⟨k1.1, k1.2.1, fun b hb => ?_, fun l hl => ?_⟩
    · rw [hA (10 + b) (by omega), hA (16 + b) (by omega)]; exact k1.2.2.1 b hb
    · rw [hA (22 + 3 * l) (by omega), hA (23 + 3 * l) (by omega), hA (24 + 3 * l) (by omega)]; exact k1.2.2.2 l hl
  · unfold WS at k3 ⊢
    rw [hA 0 (by decide), hA 1 (by decide)]
    refine ⟨k3.1, k3.2.1, fun b hb => ?_, fun l hl => ?_, fun p q hp hq => ?_⟩
    · rw [hA (10 + b) (by omega), hA (16 + b) (by omega)]; exact k3.2.2.1 b hb
    · rw [hA (22 + 3 * l) (by omega), hA (23 + 3 * l) (by omega), hA (24 + 3 * l) (by omega)]; exact k3.2.2.2.1 l hl
    · rw [hA (16 + p) (by omega), hA (16 + q) (by omega)]; exact k3.2.2.2.2 p q hp hq
  · unfold SQ at k5 ⊢
    rw [e 2 (by decide) (by decide) (by decide), e (2 + 8) (by decide) (by decide) (by decide), e (2 + 1) (by decide) (by decide) (by decide), hA 4 (by decide)]
    refine ⟨k5.1, k5.2.1, k5.2.2.1, fun k hk => ?_⟩
    rw [hv k]
    exact k5.2.2.2 k hk
  · unfold MI at k6 ⊢
    rw [e 2 (by decide) (by decide) (by decide), e (2 + 1) (by decide) (by decide) (by decide), e (2 + 9) (by decide) (by decide) (by decide), e (2 + 10) (by decide) (by decide) (by decide), e (2 + 11) (by decide) (by decide) (by decide), hA 0 (by decide), hA 5 (by decide), hA 6 (by decide), hA 2 (by decide), hA 3 (by decide)]
    obtain ⟨a1, a2, a3, a4, a5, a6, a7⟩ := k6
    refine ⟨a1, a2, a3, a4, a5, fun k hk => ?_, fun k hk => ?_⟩
    · rw [hA (58 + 2 * k) (by omega), hA (59 + 2 * k) (by omega)]; exact a6 k hk
    · rw [hA (70 + k) (by omega)]; exact a7 k hk
/-- a step is kept -/
def kp0 (A : Int → Int) : Int → Int := if A 4 = 30 then mU (fun i => if 300 ≤ i ∧ i < 6448 then A (i + 212) else A i) 4 29 else A
def kpA (A : Int → Int) : Int → Int := mU (fun i => if 300 + 212 * kp0 A 4 ≤ i ∧ i < 512 + 212 * kp0 A 4 then A (i - (300 + 212 * kp0 A 4) + 80) else kp0 A i) 4 (kp0 A 4 + 1)
theorem kp0_4 {A : Int → Int} : kp0 A 4 = if A 4 = 30 then 29 else A 4 := by
  unfold kp0
  split
  · rw [mU_e]
  · rfl
theorem kpA_lo {A : Int → Int} (h4 : 0 ≤ A 4 ∧ A 4 ≤ 30) {i : Int} (hi : i < 300) (h : i ≠ 4) : kpA A i = A i := by
  have e := kp0_4 (A := A)
  have e2 : 0 ≤ kp0 A 4 := by rw [e]; split <;> omega
  unfold kpA
  rw [mU_n h]
  show (if _ then _ else _) = _
  rw [if_neg (by omega)]
  unfold kp0
  split
  · rw [mU_n h]
    show (if _ then _ else _) = _
    rw [if_neg (by omega)]
  · rfl
theorem kpA_4 {A : Int → Int} : kpA A 4 = (if A 4 = 30 then 29 else A 4) + 1 := by
  unfold kpA
  rw [mU_e, kp0_4]
theorem kpA_new {A : Int → Int} (h4 : 0 ≤ A 4 ∧ A 4 ≤ 30) {i : Int} (h0 : 80 ≤ i) (hi : i < 292) : kpA A (300 + 212 * (if A 4 = 30 then 29 else A 4) + (i - 80)) = A i := by
  have e := kp0_4 (A := A)
  unfold kpA
  rw [e]
  have e2 : 0 ≤ (if A 4 = 30 then 29 else A 4) := by split <;> omega
  generalize (if A 4 = 30 then (29 : Int) else A 4) = n at *
  rw [mU_n (by omega)]
  show (if _ then _ else _) = _
  rw [if_pos (by omega)]
  congr 1
  omega
theorem kpA_old {A : Int → Int} (h4 : 0 ≤ A 4 ∧ A 4 ≤ 30) {i : Int} {k : Nat} (hk : (k : Int) < (if A 4 = 30 then 29 else A 4)) (h0 : 80 ≤ i) (hi : i < 292) : kpA A (300 + 212 * k + (i - 80)) = A (300 + 212 * (if A 4 = 30 then k + 1 else k) + (i - 80)) := by
  have e := kp0_4 (A := A)
  unfold kpA
  rw [e]
  by_cases g : A 4 = 30
  · simp only [if_pos g] at hk ⊢
    rw [mU_n (by omega)]
    show (if _ then _ else _) = _
    rw [if_neg (by omega)]
    unfold kp0
    rw [if_pos g, mU_n (by omega)]
    show (if _ then _ else _) = _
    rw [if_pos (by omega)]
    congr 1
    omega
  · simp only [if_neg g] at hk ⊢
    rw [mU_n (by omega)]
    show (if _ then _ else _) = _
    rw [if_neg (by omega)]
    unfold kp0
    rw [if_neg g]
theorem CV_keep {M : mM} {A : Int → Int} (h : CV 2 M A) : CV 2 (kS M) (kpA A) := by
  obtain ⟨k1, k2, k3, k4, k5, k6⟩ := h
  have h4 := k5.2.1
  have lo : ∀ i, i < 300 → i ≠ 4 → kpA A i = A i := fun i => kpA_lo h4
  have c2 : ∀ i, i ≠ 10 → i ≠ 11 → kS M 2 i = M 2 i := fun i => kS_2
  have cn : ∀ k, k ≠ 2 → k ≠ 10 → kS M k = M k := fun k => kS_n
  have v10 : kS M 2 10 = kF M := by
    unfold kS
    simp (disch := first | decide | omega) only [upC_e, upC_n, mU_e, mU_n]
  have v11 : kS M 2 11 = kN M + 1 := by
    unfold kS
    simp (disch := first | decide | omega) only [upC_e, upC_n, mU_e, mU_n]
  have hN : kN M = if A 4 = 30 then 29 else A 4 := by
    unfold kN
    rw [k5.1]
  have hF : kF M = if A 4 = 30 then (M 2 10 + 1) % 30 else M 2 10 := by
    unfold kF
    rw [k5.1]
  have hst : kS M 10 = mCpy (M 9) (M 10) 0 ((kF M + kN M) % 30 * 92) 92 := by
    unfold kS
    simp (disch := first | decide | omega) only [upC_e, upC_n, mU_e, mU_n]
  refine ⟨?_, ?_, ?_, ?_, ?_, ?_⟩
  · unfold SV at k1 ⊢
    rw [c2 0 (by decide) (by decide), c2 1 (by decide) (by decide), cn (2 + 2) (by decide) (by decide), cn (2 + 3) (by decide) (by decide), cn (2 + 4) (by decide) (by decide), cn (2 + 5) (by decide) (by decide), cn (2 + 6) (by decide) (by decide), lo 0 (by decide) (by decide), lo 1 (by decide) (by decide)]
    refine ⟨k1.1, k1.2.1, fun b hb => ?_, fun l hl => ?_⟩
    · rw [lo (10 + b) (by omega) (by omega), lo (16 + b) (by omega) (by omega)]; exact k1.2.2.1 b hb
    · rw [lo (22 + 3 * l) (by omega) (by omega), lo (23 + 3 * l) (by omega) (by omega), lo (24 + 3 * l) (by omega) (by omega)]; exact k1.2.2.2 l hl
  · rw [cn (2 + 7) (by decide) (by decide)]
    obtain ⟨a1, a2, a3⟩ := k2
    refine ⟨?_, by rw [lo 81 (by decide) (by decide)]; exact a2, RF_g k4.2.2.1 (fun _ _ _ => rfl) (fun i _ hi hn => (lo i (by omega) hn).symm) a3⟩
    unfold RD at a1 ⊢
    rw [lo 1 (by decide) (by decide), lo 80 (by decide) (by decide), lo 82 (by decide) (by decide)]
    refine ⟨fun b hb => ?_, fun l hl => ?_, a1.2.2⟩
    · rw [lo (83 + b) (by omega) (by omega), lo (89 + b) (by omega) (by omega), lo (95 + b) (by omega) (by omega), lo (101 + b) (by omega) (by omega)]; exact a1.1 b hb
    · rw [lo (107 + l) (by omega) (by omega), lo (119 + l) (by omega) (by omega)]; exact a1.2.1 l hl
  · unfold WS at k3 ⊢
    rw [lo 0 (by decide) (by decide), lo 1 (by decide) (by decide)]
    refine ⟨k3.1, k3.2.1, fun b hb => ?_, fun l hl => ?_, fun p q hp hq => ?_⟩
    · rw [lo (10 + b) (by omega) (by omega), lo (16 + b) (by omega) (by omega)]; exact k3.2.2.1 b hb
    · rw [lo (22 + 3 * l) (by omega) (by omega), lo (23 + 3 * l) (by omega) (by omega), lo (24 + 3 * l) (by omega) (by omega)]; exact k3.2.2.2.1 l hl
    · rw [lo (16 + p) (by omega) (by omega), lo (16 + q) (by omega) (by omega)]; exact k3.2.2.2.2 p q hp hq
  · exact VW_g (fun i _ hi hn => (lo i (by omega) hn).symm) k4
  · refine ⟨by rw [v11, hN, kpA_4], by rw [kpA_4]; split <;> omega, by rw [v10, hF]; have := k5.2.2.1; split <;> omega, fun k hk => ?_⟩
    have f1 := k5.2.2.1
    rw [v10, show 2 + 8 = 10 from rfl, hst, cn (2 + 1) (by decide) (by decide)]
    rw [kpA_4] at hk
    by_cases g : (k : Int) = (if A 4 = 30 then 29 else A 4)
    · have hv : ∀ i, 0 ≤ i → i < 292 → i ≠ 4 → A i = vw (kpA A) (300 + 212 * k) i := by
        intro i h0 hi hn
        unfold vw
        by_cases c : i < 80
        · rw [if_pos c, lo i (by omega) hn]
        · rw [if_neg c, g, kpA_new h4 (by omega) hi]
      refine ⟨?_, VW_g hv k4⟩
      have hrow : ∀ i, 0 ≤ i → i < 92 → M 9 i = mCpy (M 9) (M 10) 0 ((kF M + kN M) % 30 * 92) 92 ((kF M + k) % 30 * 92 + i) := by
        intro i h0 hi
        unfold mCpy
        rw [hN, ← g, if_pos (by omega)]
        congr 1
        omega
      refine SW_g (t := M (2 + 1)) (V := A) k4.2.2.1 hrow (fun b _ _ => rfl) hv ?_
      obtain ⟨a1, a2, a3⟩ := k2
      refine ⟨fun b hb => ?_, a1.2.1, a1.2.2.1, a2, a1.2.2.2.1, a3⟩
      have q := a1.1 b hb
      have w := k4.1.2.2.2.1 b hb
      refine ⟨fun c => ?_, fun c => ?_, q.2⟩
      · rw [show M 9 b = A (83 + b) from q.1, if_neg (by omega)]
      · rw [show M 9 b = A (83 + b) from q.1]; exact (w.2.2.2.1 c).1
    · have hk2 : (k : Int) < (if A 4 = 30 then 29 else A 4) := by omega
      have hold := fun i => kpA_old (A := A) h4 (i := i) hk2
      have hk3 : (((if A 4 = 30 then k + 1 else k) : Nat) : Int) < A 4 := by
        by_cases c : A 4 = 30
        · simp only [if_pos c] at hk2 ⊢; omega
        · simp only [if_neg c] at hk2 ⊢; omega
      have ho := k5.2.2.2 (if A 4 = 30 then k + 1 else k) hk3
      have hv : ∀ i, 0 ≤ i → i < 292 → i ≠ 4 → vw A (300 + 212 * ((if A 4 = 30 then k + 1 else k : Nat) : Int)) i = vw (kpA A) (300 + 212 * k) i := by
        intro i h0 hi hn
        unfold vw
        by_cases c : i < 80
        · rw [if_pos c, if_pos c, lo i (by omega) hn]
        · rw [if_neg c, if_neg c, hold i (by omega) hi]
      refine ⟨SW_g ho.2.2.2.1 ?_ (fun b _ _ => rfl) hv ho.1, VW_g hv ho.2⟩
      intro i h0 hi
      have e1 : (M 2 10 + ((if A 4 = 30 then k + 1 else k : Nat) : Int)) % 30 = (kF M + k) % 30 := by
        rw [hF]
        by_cases c : A 4 = 30
        · simp only [if_pos c]; omega
        · simp only [if_neg c]
      rw [e1]
      unfold mCpy
      have e2 : (kF M + k) % 30 ≠ (kF M + kN M) % 30 := by
        rw [hN]
        have h1 : 0 ≤ kF M ∧ kF M < 30 := by rw [hF]; split <;> omega
        have h2 : (if A 4 = 30 then (29 : Int) else A 4) ≤ 29 := by split <;> omega
        generalize (if A 4 = 30 then (29 : Int) else A 4) = n at h2 hk2 ⊢
        clear hF hN hst e1 hv ho hold
        omega
      rw [if_neg (by omega)]
  · unfold MI at k6 ⊢
    rw [c2 14 (by decide) (by decide), c2 16 (by decide) (by decide), c2 17 (by decide) (by decide), c2 18 (by decide) (by decide), cn (2 + 1) (by decide) (by decide), cn (2 + 9) (by decide) (by decide), cn (2 + 10) (by decide) (by decide), cn (2 + 11) (by decide) (by decide), lo 0 (by decide) (by decide), lo 5 (by decide) (by decide), lo 6 (by decide) (by decide), lo 2 (by decide) (by decide), lo 3 (by decide) (by decide)]
    obtain ⟨a1, a2, a3, a4, a5, a6, a7⟩ := k6
    refine ⟨a1, a2, a3, a4, a5, fun k hk => ?_, fun k hk => ?_⟩
    · rw [lo (58 + 2 * k) (by omega) (by omega), lo (59 + 2 * k) (by omega) (by omega)]; exact a6 k hk
    · rw [lo (70 + k) (by omega) (by omega)]; exact a7 k hk
