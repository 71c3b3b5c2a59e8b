/-! both sides at once -/
def TXt (M : mM) (t : Nat) (lw : RU) : Prop := (0 ≤ M 101 t ∧ M 101 t ≤ 24) ∧ M (27 + 8 * t) 3 = M 101 t ∧ (∀ i : Nat, (i : Int) < M 101 t → 0 ≤ M 102 (24 * t + i) ∧ M 102 (24 * t + i) ≤ 9 ∧ M (27 + 8 * t + 1) i = M 102 (24 * t + i) ∧ (4 ≤ M 102 (24 * t + i) → M (27 + 8 * t + 2) i = M 104 (24 * t + i) ∧ 0 ≤ M 104 (24 * t + i) ∧ M 104 (24 * t + i) ≤ 60 ∧ (M 102 (24 * t + i) = 4 ∨ M 102 (24 * t + i) = 7 ∨ M 102 (24 * t + i) = 9 → M (27 + 8 * t + 3) i = M 105 (24 * t + i)))) ∧ (∀ w, 0 ≤ w → w ≤ 3 → (lw w = none ∧ M (27 + 8 * t + 6) w = 0 ∧ ∀ i : Nat, (i : Int) < M 101 t → M 102 (24 * t + i) ≠ w) ∨ ∃ L, ∃ i : Nat, lw w = some L ∧ (0 < M (27 + 8 * t + 6) w ∧ 0 ≤ M (27 + 8 * t + 5) w ∧ cod (M (27 + 8 * t + 4)) (M (27 + 8 * t + 5) w) L ∧ M (27 + 8 * t + 6) w = M (27 + 8 * t + 5) w + L.length ∧ M (27 + 8 * t + 6) w ≤ 300 ∧ wfc w L [] [decide (w = 1)]) ∧ (i : Int) < M 101 t ∧ M 102 (24 * t + i) = w ∧ (∀ j : Nat, (j : Int) < M 101 t → M 102 (24 * t + j) = w → j = i) ∧ rcod (M 106) (M 107) (M 103 (24 * t + i)) L ∧ 0 ≤ M 103 (24 * t + i) ∧ M 103 (24 * t + i) + L.length < 400 * (t : Int) + 400)
def ruJ (A : Int → Int) (lw : Nat → RU) : RU := if A 3 < 0 then fun _ => none else lw (A 3).toNat
def TP (M : mM) : Prop := M 59 1 = M 97 3 ∧ (0 ≤ M 59 1 ∧ M 59 1 ≤ 300) ∧ (∀ i : Nat, (i : Int) < M 59 1 → M 60 i = M 100 i ∧ -128 ≤ M 60 i ∧ M 60 i < 128) ∧ M 61 0 = M 97 4 ∧ M 61 1 = M 97 5
/-- what the arrays and the texts of constants hold -/
def ctL (k : Nat) : List Int := if k = 142 then [0, 1, 0, 0, 0, 0] else if k = 143 then [11, 60, 5, 5, 9, 60] else if k = 144 then [10, 41, 41, 11, 41, 10] else if k = 145 then [0, 0, 0, 1, 0, 0] else if k = 146 then [5, 0, 0, 60, 0, 5] else if k = 148 then [110, 111, 116, 101, 32, 32, 116, 117, 110, 101, 32, 32, 104, 111, 108, 100, 115, 32, 116, 111, 108, 108, 32, 32, 103, 111, 32, 32, 32, 32, 104, 111, 117, 114, 32, 32, 109, 101, 110, 100, 32, 32, 115, 116, 114, 105, 110, 103, 102, 114, 111, 115, 116, 32, 115, 116, 97, 110, 100, 32, 111, 110, 32, 32, 32, 32, 116, 111, 32, 32, 32, 32, 111, 114, 32, 32, 32, 32, 97, 110, 100, 32, 32, 32, 110, 111, 116, 32, 32, 32, 98, 114, 105, 100, 103, 101, 115, 116, 114, 117, 110, 103, 108, 101, 110, 103, 116, 104, 119, 101, 97, 114, 32, 32, 108, 111, 97, 100, 32, 32, 109, 97, 110, 121, 32, 32, 117, 112, 32, 32, 32, 32, 100, 111, 119, 110, 32, 32, 108, 111, 119, 32, 32, 32, 104, 105, 103, 104, 32, 32, 119, 101, 105, 103, 104, 116, 107, 105, 110, 100, 32, 32, 115, 111, 117, 110, 100, 32] else if k = 150 then [60, 32, 62, 32, 61, 35, 43, 45, 42, 47, 37, 40, 41, 59] else []
def CT (k : Nat) : Int → Int := fun i => (ctL k).getD i.toNat 0
def KS (S : Int → Int) (M : mM) : Prop := M 152 = S ∧ ∀ k, 142 ≤ k → k ≤ 150 → M k = CT k
theorem KS_c {S : Int → Int} {M M' : mM} (h : KS S M) (e : ∀ k, 142 ≤ k → k ≤ 152 → M' k = M k) : KS S M' :=
  ⟨by rw [e 152 (by decide) (by decide)]; exact h.1, fun k a b => by rw [e k a (by omega)]; exact h.2 k a b⟩
/-- the notes of a choice: notes, whoever laid them out -/
def N77 (M : mM) : Prop := ∀ i : Nat, i < 244 → 0 ≤ M 77 i ∧ M 77 i ≤ 999
def J (S : Int → Int) (M : mM) (lw : Nat → RU) : Prop := CV 2 M (M 98) ∧ CV 14 M (M 99) ∧ M 99 2 ≤ M 98 2 ∧ (∀ t : Nat, (t : Int) < M 98 2 → TXt M t (lw t)) ∧ TP M ∧ M 63 2 = 0 ∧ KS S M ∧ N77 M
theorem J_m {S : Int → Int} {M : mM} {lw : Nat → RU} (h : J S M lw) : M 2 18 = M 98 3 ∧ -1 ≤ M 98 3 ∧ M 98 3 < M 98 2 ∧ 0 ≤ M 98 2 ∧ M 98 2 ≤ 4 := by
  obtain ⟨⟨-, -, -, -, -, -, -, -, h4, h5, -⟩, -⟩ := h
  exact ⟨h5.1, h5.2.1, h5.2.2, h4.2.1, h4.2.2⟩
theorem J_CR {S : Int → Int} {M : mM} {lw : Nat → RU} (h : J S M lw) : CR M (ruJ (M 98) lw) := by
  obtain ⟨m1, m2, m3, m4, m5⟩ := J_m h
  unfold ruJ
  by_cases e : M 98 3 < 0
  · rw [if_pos e]
    exact Or.inl ⟨by omega, fun _ => rfl⟩
  · rw [if_neg e]
    have ht := h.2.2.2.1 (M 98 3).toNat (by omega)
    refine Or.inr ⟨(M 98 3).toNat, by omega, by omega, fun w w0 w3 => ?_⟩
    rcases ht.2.2.2 w w0 w3 with ⟨a, b, -⟩ | ⟨L, i, a, b, -⟩
    · exact Or.inl ⟨a, b⟩
    · exact Or.inr ⟨L, a, b⟩
theorem J_RR {S : Int → Int} {M : mM} {lw : Nat → RU} (h : J S M lw) : RR M (ruJ (M 98) lw) := by
  obtain ⟨m1, m2, m3, m4, m5⟩ := J_m h
  unfold ruJ
  by_cases e : M 98 3 < 0
  · rw [if_pos e]
    exact Or.inl ⟨by omega, fun _ => rfl⟩
  · rw [if_neg e]
    have ht := h.2.2.2.1 (M 98 3).toNat (by omega)
    refine Or.inr ⟨(M 98 3).toNat, by omega, by omega, ht.1, fun w w0 w3 => ?_⟩
    rcases ht.2.2.2 w w0 w3 with ⟨a, b, c⟩ | ⟨L, i, a, b, c1, c2, c3, c4, c5, c6⟩
    · exact Or.inl ⟨a, c⟩
    · exact Or.inr ⟨L, i, a, c1, c2, c3, c4, c5, by omega, b.2.2.2.2.2⟩
theorem J_CC {S : Int → Int} {M : mM} {lw : Nat → RU} (h : J S M lw) : CC M (M 98) (ruJ (M 98) lw) := ⟨h.1, h.2.2.2.2.2.1, J_CR h⟩
theorem J_b {S : Int → Int} {M : mM} {lw : Nat → RU} (h : J S M lw) : (0 ≤ M 98 0 ∧ M 98 0 ≤ 6) ∧ (0 ≤ M 98 1 ∧ M 98 1 ≤ 12) ∧ (0 ≤ M 98 4 ∧ M 98 4 ≤ 30) ∧ WS (M 98) ∧ WD (M 98) ∧ FW (M 98) ∧ M 98 81 ≤ 999 :=
  ⟨h.1.2.2.1.1, h.1.2.2.1.2.1, h.1.2.2.2.2.1.2.1, h.1.2.2.1, h.1.2.2.2.1.1, h.1.2.2.2.1.2.2, h.1.2.2.2.1.2.1⟩
/-- the cells that a call of the class may change, and one of the reference -/
abbrev QC : List Nat := [2, 3, 4, 5, 6, 7, 8, 9, 10, 11, 12, 13, 34, 42, 50, 58, 63, 64, 65, 66, 67, 68, 69, 70, 71, 72, 73, 74, 75, 76, 78, 79, 80, 81, 82, 83, 84, 85, 86, 87, 88, 89, 90, 91, 92, 93, 94, 95, 96]
abbrev QR : List Nat := [97, 98, 108, 109, 110, 111, 112, 113, 114, 115, 116, 117, 118, 119, 120, 121, 122, 123, 124, 125, 126, 127, 128, 129, 130, 131, 132, 133, 134, 135, 136, 137, 138, 139, 140, 141]
theorem TXt_c {M M' : mM} {t : Nat} {lw : RU} (ht : t < 4) (h : TXt M t lw) (e : ∀ k, 27 ≤ k → k ≤ 58 → k ≠ 34 → k ≠ 42 → k ≠ 50 → k ≠ 58 → M' k = M k) (e2 : ∀ k, 101 ≤ k → k ≤ 107 → M' k = M k) : TXt M' t lw := by
  unfold TXt at h ⊢
  rw [e2 101 (by decide) (by decide), e2 102 (by decide) (by decide), e2 103 (by decide) (by decide), e2 104 (by decide) (by decide), e2 105 (by decide) (by decide), e2 106 (by decide) (by decide), e2 107 (by decide) (by decide), e (27 + 8 * t) (by omega) (by omega) (by omega) (by omega) (by omega) (by omega), e (27 + 8 * t + 1) (by omega) (by omega) (by omega) (by omega) (by omega) (by omega), e (27 + 8 * t + 2) (by omega) (by omega) (by omega) (by omega) (by omega) (by omega), e (27 + 8 * t + 3) (by omega) (by omega) (by omega) (by omega) (by omega) (by omega), e (27 + 8 * t + 4) (by omega) (by omega) (by omega) (by omega) (by omega) (by omega), e (27 + 8 * t + 5) (by omega) (by omega) (by omega) (by omega) (by omega) (by omega), e (27 + 8 * t + 6) (by omega) (by omega) (by omega) (by omega) (by omega) (by omega)]
  exact h
theorem notQ {k : Nat} {L : List Nat} (h : L.contains k = false) : k ∉ L := by
  intro q
  have : L.contains k = true := List.contains_iff_mem.mpr q
  rw [h] at this
  cases this
theorem qd1 : ∀ k, k < 153 → 2 ≤ k → k ≤ 13 → QR.contains k = false := by decide +kernel
theorem qd2 : ∀ k, k < 153 → 14 ≤ k → k ≤ 25 → QC.contains k = false ∧ QR.contains k = false := by decide +kernel
theorem qd3 : ∀ k, k < 153 → (27 ≤ k ∧ k ≤ 58 ∧ k ≠ 34 ∧ k ≠ 42 ∧ k ≠ 50 ∧ k ≠ 58) → QC.contains k = false ∧ QR.contains k = false := by decide +kernel
theorem qd4 : ∀ k, k < 153 → 101 ≤ k → k ≤ 107 → QC.contains k = false ∧ QR.contains k = false := by decide +kernel
theorem qdK : ∀ k, k < 153 → 142 ≤ k → QC.contains k = false ∧ QR.contains k = false := by decide +kernel
theorem J_step {S : Int → Int} {M M1 M2 : mM} {lw : Nat → RU} (h : J S M lw) (f1 : fr QC M M1) (h1 : CV 2 M1 (M2 98)) (h63 : M1 63 2 = 0) (f2 : fr QR M1 M2) (h97 : ∀ i, i ≤ 5 → M2 97 i = M1 97 i) (ht : M2 98 2 = M 98 2) : J S M2 lw := by
  obtain ⟨k1, k2, k3, k4, k5, k6, k7⟩ := h
  have t4 : 0 ≤ M 98 2 ∧ M 98 2 ≤ 4 := by
    obtain ⟨-, -, -, -, -, -, -, -, h4, -⟩ := k1
    exact h4.2
  have g : ∀ k, k ∉ QC → k ∉ QR → M2 k = M k := fun k a b => by rw [f2 k b, f1 k a]
  have z : ∀ k, k ≤ 152 → QC.contains k = false → QR.contains k = false → M2 k = M k := fun k _ a b => g k (notQ a) (notQ b)
  have e99 : M2 99 = M 99 := z 99 (by decide) (by decide) (by decide)
  refine ⟨CV_c h1 (fun k a b => f2 k (notQ (qd1 k (by omega) a b))), by rw [e99]; exact CV_c k2 (fun k a b => g k (notQ (qd2 k (by omega) a b).1) (notQ (qd2 k (by omega) a b).2)), by rw [e99, ht]; exact k3, fun t hlt => TXt_c (by omega) (k4 t (by omega)) (fun k a b c1 c2 c3 c4 => g k (notQ (qd3 k (by omega) ⟨a, b, c1, c2, c3, c4⟩).1) (notQ (qd3 k (by omega) ⟨a, b, c1, c2, c3, c4⟩).2)) (fun k a b => g k (notQ (qd4 k (by omega) a b).1) (notQ (qd4 k (by omega) a b).2)), ?_, by rw [f2 63 (by decide), h63], KS_c k7.1 (fun k a b => z k b (qdK k (by omega) a).1 (qdK k (by omega) a).2), fun i hi => by rw [z 77 (by decide) (by decide) (by decide)]; exact k7.2 i hi⟩
  · unfold TP at k5 ⊢
    have e97 : M1 97 = M 97 := f1 97 (by decide)
    rw [z 59 (by decide) (by decide) (by decide), z 60 (by decide) (by decide) (by decide), z 61 (by decide) (by decide) (by decide), z 100 (by decide) (by decide) (by decide), h97 3 (by decide), h97 4 (by decide), h97 5 (by decide), e97]
    exact k5
def OPJ (jc jr : Nat) (as : List mV) : Prop := ∀ (S : Int → Int) (d : Nat) (M : mM) (lw : Nat → RU), J S M lw → ∀ K : mQ, (∀ (z : Int) (M1 : mM), (∀ K2 : mQ, (∀ M2 lw2, J S M2 lw2 → K2 (some (vi z)) M2) → mCall (d + 40) jr (vr 97 :: as) M1 K2) → K (some (vi z)) M1) → mCall (d + 40) jc (vr 1 :: as) M K
theorem J_hand {S : Int → Int} {M M1 : mM} {lw : Nat → RU} {A' : Int → Int} (h : J S M lw) (f : fr QK M M1) (hC : CC M1 A' (ruJ (M 98) lw)) (ht : A' 2 = M 98 2) : J S (upC M1 98 A') lw :=
  J_step h (fr_mono f (by decide)) (by rw [upC_e]; exact hC.1) hC.2.1 (fr_in (by decide)) (fun i _ => by rw [upC_n (by decide)]) (by rw [upC_e]; exact ht)
