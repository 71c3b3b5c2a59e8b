/-! text: tokens, and the class's tape -/
def isBl (x : Int) : Prop := x = 32 ∨ x = 10
def isLt (x : Int) : Prop := (97 ≤ x ∧ x ≤ 122) ∨ (65 ≤ x ∧ x ≤ 90)
def isDg (x : Int) : Prop := 48 ≤ x ∧ x ≤ 57
def wMt (f : Int → Int) (a b w : Nat) : Prop := ∀ i : Nat, i < 6 → CT 148 ((w : Int) * 6 + i) = if (a : Int) + i < b then f ((a : Int) + i) else 32
def nmV (f : Int → Int) (a : Nat) : Nat → Int
  | 0 => 0
  | m + 1 => min 10000 (nmV f a m * 10 + f ((a : Int) + m) - 48)
def sgK (x : Int) : Int := if x = 60 then 28 else if x = 62 then 30 else if x = 61 then 32 else if x = 35 then 33 else if x = 43 then 34 else if x = 45 then 35 else if x = 42 then 36 else if x = 47 then 37 else if x = 37 then 38 else if x = 40 then 39 else if x = 41 then 40 else if x = 59 then 41 else 44
def sg2 (f : Int → Int) (n a : Nat) : Prop := (f a = 60 ∨ f a = 62) ∧ a + 1 < n ∧ f ((a : Int) + 1) = 61
def TKw (f : Int → Int) (a q : Nat) (k : Int) : Prop := (q ≤ a + 6 ∧ ∃ w : Nat, w < 28 ∧ k = w ∧ wMt f a q w ∧ ∀ u, u < w → ¬ wMt f a q u) ∨ (k = 44 ∧ (a + 6 < q ∨ ∀ w : Nat, w < 28 → ¬ wMt f a q w))
/-- a token: from p on blanks, then at a the token k (a number's value v), behind it q -/
def TK (f : Int → Int) (n p : Nat) (k v : Int) (a q : Nat) : Prop := (p ≤ a ∧ a < q ∧ q ≤ n) ∧ (∀ j : Nat, p ≤ j → j < a → isBl (f j)) ∧ ¬ isBl (f a) ∧ ((isLt (f a) ∧ (∀ j : Nat, a ≤ j → j < q → isLt (f j)) ∧ (q < n → ¬ isLt (f q)) ∧ TKw f a q k) ∨ (¬ isLt (f a) ∧ isDg (f a) ∧ k = 42 ∧ (∀ j : Nat, a ≤ j → j < q → isDg (f j)) ∧ (q < n → ¬ isDg (f q)) ∧ v = nmV f a (q - a)) ∨ (¬ isLt (f a) ∧ ¬ isDg (f a) ∧ ((sg2 f n a ∧ q = a + 2 ∧ k = sgK (f a) + 1) ∨ (¬ sg2 f n a ∧ q = a + 1 ∧ k = sgK (f a)))))
def TKS (f : Int → Int) (n : Nat) : List (Int × Int × Nat) → Nat → Prop
  | [], p => p ≤ n ∧ ∀ j : Nat, p ≤ j → j < n → isBl (f j)
  | t :: T, p => ∃ q, TK f n p t.1 t.2.1 t.2.2 q ∧ TKS f n T q
theorem span_ex {P : Nat → Prop} (n : Nat) : ∀ m p : Nat, p + m = n → ∃ q, p ≤ q ∧ q ≤ n ∧ (∀ j, p ≤ j → j < q → P j) ∧ (q < n → ¬ P q)
  | 0, p, h => ⟨p, Nat.le_refl _, by omega, fun j h1 h2 => by omega, fun h1 => by omega⟩
  | m + 1, p, h => by
    by_cases c : P p
    · obtain ⟨q, h1, h2, h3, h4⟩ := span_ex n m (p + 1) (by omega)
      refine ⟨q, by omega, h2, fun j g1 g2 => ?_, h4⟩
      by_cases e : j = p
      · rw [e]; exact c
      · exact h3 j (by omega) g2
    · exact ⟨p, Nat.le_refl _, by omega, fun j h1 h2 => by omega, fun _ => c⟩
theorem least_ex {P : Nat → Prop} : ∀ n : Nat, (∃ w, w < n ∧ P w ∧ ∀ u, u < w → ¬ P u) ∨ ∀ w, w < n → ¬ P w
  | 0 => Or.inr (fun w h => by omega)
  | n + 1 => by
    rcases least_ex (P := P) n with ⟨w, h1, h2, h3⟩ | h
    · exact Or.inl ⟨w, by omega, h2, h3⟩
    · by_cases c : P n
      · exact Or.inl ⟨n, by omega, c, h⟩
      · refine Or.inr (fun w hw => ?_)
        by_cases e : w = n
        · rw [e]; exact c
        · exact h w (by omega)
theorem TK_ex {f : Int → Int} {n p : Nat} (hp : p ≤ n) : (∀ j : Nat, p ≤ j → j < n → isBl (f j)) ∨ ∃ k v a q, TK f n p k v a q := by
  obtain ⟨a, h1, h2, h3, h4⟩ := span_ex (P := fun j => isBl (f j)) n (n - p) p (by omega)
  by_cases e : a = n
  · subst e
    exact Or.inl h3
  · right
    have h5 := h4 (by omega)
    by_cases c1 : isLt (f a)
    · obtain ⟨q, g1, g2, g3, g4⟩ := span_ex (P := fun j => isLt (f j)) n (n - a) a (by omega)
      have hq : a < q := by
        rcases Nat.lt_or_ge a q with g | g
        · exact g
        · have : q = a := by omega
          rw [this] at g4
          exact absurd c1 (g4 (by omega))
      by_cases c6 : a + 6 < q
      · exact ⟨44, 0, a, q, ⟨h1, hq, g2⟩, h3, h5, Or.inl ⟨c1, g3, g4, Or.inr ⟨rfl, Or.inl c6⟩⟩⟩
      · rcases least_ex (P := fun w => wMt f a q w) 28 with ⟨w, w1, w2, w3⟩ | w
        · exact ⟨w, 0, a, q, ⟨h1, hq, g2⟩, h3, h5, Or.inl ⟨c1, g3, g4, Or.inl ⟨by omega, w, w1, rfl, w2, w3⟩⟩⟩
        · exact ⟨44, 0, a, q, ⟨h1, hq, g2⟩, h3, h5, Or.inl ⟨c1, g3, g4, Or.inr ⟨rfl, Or.inr w⟩⟩⟩
    · by_cases c2 : isDg (f a)
      · obtain ⟨q, g1, g2, g3, g4⟩ := span_ex (P := fun j => isDg (f j)) n (n - a) a (by omega)
        have hq : a < q := by
          rcases Nat.lt_or_ge a q with g | g
          · exact g
          · have : q = a := by omega
            rw [this] at g4
            exact absurd c2 (g4 (by omega))
        exact ⟨42, _, a, q, ⟨h1, hq, g2⟩, h3, h5, Or.inr (Or.inl ⟨c1, c2, rfl, g3, g4, rfl⟩)⟩
      · by_cases c3 : sg2 f n a
        · exact ⟨_, 0, a, a + 2, ⟨h1, by omega, by have := c3.2.1; omega⟩, h3, h5, Or.inr (Or.inr ⟨c1, c2, Or.inl ⟨c3, rfl, rfl⟩⟩)⟩
        · exact ⟨_, 0, a, a + 1, ⟨h1, by omega, by omega⟩, h3, h5, Or.inr (Or.inr ⟨c1, c2, Or.inr ⟨c3, rfl, rfl⟩⟩)⟩
theorem TKS_ex {f : Int → Int} {n : Nat} : ∀ m p : Nat, p + m = n → ∃ T, TKS f n T p ∧ T.length ≤ m := by
  intro m
  induction m using Nat.strongRecOn with
  | ind m ih =>
    intro p h
    rcases TK_ex (f := f) (n := n) (p := p) (by omega) with g | ⟨k, v, a, q, g⟩
    · exact ⟨[], ⟨by omega, g⟩, Nat.zero_le _⟩
    · have g1 := g.1
      obtain ⟨T, t1, t2⟩ := ih (n - q) (by omega) q (by omega)
      exact ⟨(k, v, a) :: T, ⟨q, g, t1⟩, by rw [List.length_cons]; omega⟩
def TC (M : mM) (f : Int → Int) (n : Nat) : Prop := M 59 1 = n ∧ n ≤ 300 ∧ M 60 = f ∧ (∀ i : Nat, i < n → -128 ≤ f i ∧ f i < 128)
def KC (M : mM) : Prop := M 147 1 = 0 ∧ M 148 = CT 148 ∧ M 149 1 = 0 ∧ M 150 = CT 150
def f59 (M M' : mM) : Prop := fr [59] M M' ∧ ∀ i, i ≠ 2 → i ≠ 3 → i ≠ 4 → M' 59 i = M 59 i
theorem f59_r {M : mM} : f59 M M := ⟨fr_refl, fun _ _ _ _ => rfl⟩
theorem f59_t {M M1 M2 : mM} (h1 : f59 M M1) (h2 : f59 M1 M2) : f59 M M2 := ⟨fr_trans h1.1 h2.1, fun i a b c => (h2.2 i a b c).trans (h1.2 i a b c)⟩
theorem f59_u {M M' : mM} {i v : Int} (h : f59 M M') (hi : i = 2 ∨ i = 3 ∨ i = 4) : f59 M (upC M' 59 (mU (M' 59) i v)) :=
  ⟨fr_up (by decide) h.1, fun j a b c => by rw [upC_e, mU_n (by omega)]; exact h.2 j a b c⟩
theorem f59_u2 {M M' : mM} {i v j w : Int} (h : f59 M M') (hi : i = 2 ∨ i = 3 ∨ i = 4) (hj : j = 2 ∨ j = 3 ∨ j = 4) : f59 M (upC M' 59 (mU (mU (M' 59) i v) j w)) :=
  ⟨fr_up (by decide) h.1, fun k a b c => by rw [upC_e, mU_n (by omega), mU_n (by omega)]; exact h.2 k a b c⟩
theorem TC_c {M M' : mM} {f : Int → Int} {n : Nat} (h : TC M f n) (e : f59 M M') : TC M' f n :=
  ⟨by rw [e.2 1 (by decide) (by decide) (by decide)]; exact h.1, h.2.1, by rw [e.1 60 (by decide)]; exact h.2.2.1, h.2.2.2⟩
theorem KC_c {M M' : mM} (h : KC M) (e : ∀ k, 147 ≤ k → k ≤ 150 → M' k = M k) : KC M' := by
  unfold KC
  rw [e 147 (by decide) (by decide), e 148 (by decide) (by decide), e 149 (by decide) (by decide), e 150 (by decide) (by decide)]
  exact h
theorem KC_f {M M' : mM} (h : KC M) (e : f59 M M') : KC M' := KC_c h (fun k a b => e.1 k (by intro q; have := List.mem_singleton.mp q; omega))
theorem ct148 : ∀ i : Nat, i < 168 → 0 ≤ CT 148 i ∧ CT 148 i ≤ 127 := by decide +kernel
theorem c_isLt1 {d : Nat} {M : mM} {K : mQ} {j : Int} (hj : 0 ≤ j ∧ j < 300) (h : isLt (M 60 j)) : mCall (d + 1) 81 [vr 59, vi j] M K = K (some (vi 1)) M := by
  rcases h with h | h
  · simp (disch := first | decide | omega) only [b81, w81_0, w81_1, w81_4, w81_5, w81_6, w81_7, w81_8, w81_10, w81_13, w81_14, w81_16, w81_19, w81_20, w81_22, w81_25, w81_26, w81_28, w81_31, w81_32, w81_35, w81_36, tc59, tr59_0, ta60, tn60, xLoad_i, xLoad_l, xLoad_r, xInc_s, xBr_t, xBr_f, xNz_s, xGf_s, xPf_s, xPz_s, xLd_2, xLd_7, xLd_10, xLdb_3, xLdb_5, xLdb_9, xLdl_4, xLdr_6, xSt_2, xStl_4, xStb_3, xStb_5, xLen_s, xLen_10, xCpy_s, xIv_s, xMx_s, mCont_s, mCont_n, w32_s, w64_s, upC_e, upC_n, upC_u, upC_c, mEn_c, mEn_n, mcw_i, mcw_l, mcw_r, mcat_n, mcat_i, mcat_l, mcat_r, xlong_i, xlong_l, xlong_r, xlong_n, s1_at, s2_at, ↓reduceIte, reduceCtorEq, and_self, true_and, and_true, false_and, and_false, Bool.false_eq_true, ne_eq, not_true_eq_false, not_false_eq_true, or_true, true_or, or_false, false_or, or_self, Int.tmod_eq_emod_of_nonneg, Int.tdiv_eq_ediv_of_nonneg, Classical.not_not, xSw, rOK, b2i_ok, b2i_0, b2i_1, Nat.reduceAdd, Nat.reduceSub, Nat.reduceMul, Nat.reduceEqDiff, Nat.reduceLeDiff, Nat.reduceLT, Int.reduceAdd, Int.reduceSub, Int.reduceMul, Int.reduceNeg, Int.reduceEq, Int.reduceNe, Int.reduceLT, Int.reduceLE, Int.reduceToNat, Int.reduceTDiv, Int.reduceTMod, b2i_em]
  · simp (disch := first | decide | omega) only [b81, w81_0, w81_1, w81_4, w81_5, w81_6, w81_7, w81_8, w81_10, w81_13, w81_14, w81_16, w81_19, w81_20, w81_22, w81_25, w81_26, w81_28, w81_31, w81_32, w81_35, w81_36, tc59, tr59_0, ta60, tn60, xLoad_i, xLoad_l, xLoad_r, xInc_s, xBr_t, xBr_f, xNz_s, xGf_s, xPf_s, xPz_s, xLd_2, xLd_7, xLd_10, xLdb_3, xLdb_5, xLdb_9, xLdl_4, xLdr_6, xSt_2, xStl_4, xStb_3, xStb_5, xLen_s, xLen_10, xCpy_s, xIv_s, xMx_s, mCont_s, mCont_n, w32_s, w64_s, upC_e, upC_n, upC_u, upC_c, mEn_c, mEn_n, mcw_i, mcw_l, mcw_r, mcat_n, mcat_i, mcat_l, mcat_r, xlong_i, xlong_l, xlong_r, xlong_n, s1_at, s2_at, ↓reduceIte, reduceCtorEq, and_self, true_and, and_true, false_and, and_false, Bool.false_eq_true, ne_eq, not_true_eq_false, not_false_eq_true, or_true, true_or, or_false, false_or, or_self, Int.tmod_eq_emod_of_nonneg, Int.tdiv_eq_ediv_of_nonneg, Classical.not_not, xSw, rOK, b2i_ok, b2i_0, b2i_1, Nat.reduceAdd, Nat.reduceSub, Nat.reduceMul, Nat.reduceEqDiff, Nat.reduceLeDiff, Nat.reduceLT, Int.reduceAdd, Int.reduceSub, Int.reduceMul, Int.reduceNeg, Int.reduceEq, Int.reduceNe, Int.reduceLT, Int.reduceLE, Int.reduceToNat, Int.reduceTDiv, Int.reduceTMod, b2i_em]
theorem c_isLt0 {d : Nat} {M : mM} {K : mQ} {j : Int} (hj : 0 ≤ j ∧ j < 300) (h : ¬ isLt (M 60 j)) : mCall (d + 1) 81 [vr 59, vi j] M K = K (some (vi 0)) M := by
  unfold isLt at h
  by_cases c1 : 97 ≤ M 60 j
  · simp (disch := first | decide | omega) only [b81, w81_0, w81_1, w81_4, w81_5, w81_6, w81_7, w81_8, w81_10, w81_13, w81_14, w81_16, w81_19, w81_20, w81_22, w81_25, w81_26, w81_28, w81_31, w81_32, w81_35, w81_36, tc59, tr59_0, ta60, tn60, xLoad_i, xLoad_l, xLoad_r, xInc_s, xBr_t, xBr_f, xNz_s, xGf_s, xPf_s, xPz_s, xLd_2, xLd_7, xLd_10, xLdb_3, xLdb_5, xLdb_9, xLdl_4, xLdr_6, xSt_2, xStl_4, xStb_3, xStb_5, xLen_s, xLen_10, xCpy_s, xIv_s, xMx_s, mCont_s, mCont_n, w32_s, w64_s, upC_e, upC_n, upC_u, upC_c, mEn_c, mEn_n, mcw_i, mcw_l, mcw_r, mcat_n, mcat_i, mcat_l, mcat_r, xlong_i, xlong_l, xlong_r, xlong_n, s1_at, s2_at, ↓reduceIte, reduceCtorEq, and_self, true_and, and_true, false_and, and_false, Bool.false_eq_true, ne_eq, not_true_eq_false, not_false_eq_true, or_true, true_or, or_false, false_or, or_self, Int.tmod_eq_emod_of_nonneg, Int.tdiv_eq_ediv_of_nonneg, Classical.not_not, xSw, rOK, b2i_ok, b2i_0, b2i_1, Nat.reduceAdd, Nat.reduceSub, Nat.reduceMul, Nat.reduceEqDiff, Nat.reduceLeDiff, Nat.reduceLT, Int.reduceAdd, Int.reduceSub, Int.reduceMul, Int.reduceNeg, Int.reduceEq, Int.reduceNe, Int.reduceLT, Int.reduceLE, Int.reduceToNat, Int.reduceTDiv, Int.reduceTMod, b2i_em]
  · by_cases c2 : 65 ≤ M 60 j
    · simp (disch := first | decide | omega) only [b81, w81_0, w81_1, w81_4, w81_5, w81_6, w81_7, w81_8, w81_10, w81_13, w81_14, w81_16, w81_19, w81_20, w81_22, w81_25, w81_26, w81_28, w81_31, w81_32, w81_35, w81_36, tc59, tr59_0, ta60, tn60, xLoad_i, xLoad_l, xLoad_r, xInc_s, xBr_t, xBr_f, xNz_s, xGf_s, xPf_s, xPz_s, xLd_2, xLd_7, xLd_10, xLdb_3, xLdb_5, xLdb_9, xLdl_4, xLdr_6, xSt_2, xStl_4, xStb_3, xStb_5, xLen_s, xLen_10, xCpy_s, xIv_s, xMx_s, mCont_s, mCont_n, w32_s, w64_s, upC_e, upC_n, upC_u, upC_c, mEn_c, mEn_n, mcw_i, mcw_l, mcw_r, mcat_n, mcat_i, mcat_l, mcat_r, xlong_i, xlong_l, xlong_r, xlong_n, s1_at, s2_at, ↓reduceIte, reduceCtorEq, and_self, true_and, and_true, false_and, and_false, Bool.false_eq_true, ne_eq, not_true_eq_false, not_false_eq_true, or_true, true_or, or_false, false_or, or_self, Int.tmod_eq_emod_of_nonneg, Int.tdiv_eq_ediv_of_nonneg, Classical.not_not, xSw, rOK, b2i_ok, b2i_0, b2i_1, Nat.reduceAdd, Nat.reduceSub, Nat.reduceMul, Nat.reduceEqDiff, Nat.reduceLeDiff, Nat.reduceLT, Int.reduceAdd, Int.reduceSub, Int.reduceMul, Int.reduceNeg, Int.reduceEq, Int.reduceNe, Int.reduceLT, Int.reduceLE, Int.reduceToNat, Int.reduceTDiv, Int.reduceTMod, b2i_em]
    · simp (disch := first | decide | omega) only [b81, w81_0, w81_1, w81_4, w81_5, w81_6, w81_7, w81_8, w81_10, w81_13, w81_14, w81_16, w81_19, w81_20, w81_22, w81_25, w81_26, w81_28, w81_31, w81_32, w81_35, w81_36, tc59, tr59_0, ta60, tn60, xLoad_i, xLoad_l, xLoad_r, xInc_s, xBr_t, xBr_f, xNz_s, xGf_s, xPf_s, xPz_s, xLd_2, xLd_7, xLd_10, xLdb_3, xLdb_5, xLdb_9, xLdl_4, xLdr_6, xSt_2, xStl_4, xStb_3, xStb_5, xLen_s, xLen_10, xCpy_s, xIv_s, xMx_s, mCont_s, mCont_n, w32_s, w64_s, upC_e, upC_n, upC_u, upC_c, mEn_c, mEn_n, mcw_i, mcw_l, mcw_r, mcat_n, mcat_i, mcat_l, mcat_r, xlong_i, xlong_l, xlong_r, xlong_n, s1_at, s2_at, ↓reduceIte, reduceCtorEq, and_self, true_and, and_true, false_and, and_false, Bool.false_eq_true, ne_eq, not_true_eq_false, not_false_eq_true, or_true, true_or, or_false, false_or, or_self, Int.tmod_eq_emod_of_nonneg, Int.tdiv_eq_ediv_of_nonneg, Classical.not_not, xSw, rOK, b2i_ok, b2i_0, b2i_1, Nat.reduceAdd, Nat.reduceSub, Nat.reduceMul, Nat.reduceEqDiff, Nat.reduceLeDiff, Nat.reduceLT, Int.reduceAdd, Int.reduceSub, Int.reduceMul, Int.reduceNeg, Int.reduceEq, Int.reduceNe, Int.reduceLT, Int.reduceLE, Int.reduceToNat, Int.reduceTDiv, Int.reduceTMod, b2i_em]
theorem c_isDg1 {d : Nat} {M : mM} {K : mQ} {j : Int} (hj : 0 ≤ j ∧ j < 300) (h : isDg (M 60 j)) : mCall (d + 1) 82 [vr 59, vi j] M K = K (some (vi 1)) M := by
  unfold isDg at h
  simp (disch := first | decide | omega) only [b82, w82_0, w82_1, w82_4, w82_5, w82_6, w82_8, w82_11, w82_12, w82_15, w82_16, w82_17, w82_19, w82_22, w82_23, w82_26, w82_27, tc59, tr59_0, ta60, tn60, xLoad_i, xLoad_l, xLoad_r, xInc_s, xBr_t, xBr_f, xNz_s, xGf_s, xPf_s, xPz_s, xLd_2, xLd_7, xLd_10, xLdb_3, xLdb_5, xLdb_9, xLdl_4, xLdr_6, xSt_2, xStl_4, xStb_3, xStb_5, xLen_s, xLen_10, xCpy_s, xIv_s, xMx_s, mCont_s, mCont_n, w32_s, w64_s, upC_e, upC_n, upC_u, upC_c, mEn_c, mEn_n, mcw_i, mcw_l, mcw_r, mcat_n, mcat_i, mcat_l, mcat_r, xlong_i, xlong_l, xlong_r, xlong_n, s1_at, s2_at, ↓reduceIte, reduceCtorEq, and_self, true_and, and_true, false_and, and_false, Bool.false_eq_true, ne_eq, not_true_eq_false, not_false_eq_true, or_true, true_or, or_false, false_or, or_self, Int.tmod_eq_emod_of_nonneg, Int.tdiv_eq_ediv_of_nonneg, Classical.not_not, xSw, rOK, b2i_ok, b2i_0, b2i_1, Nat.reduceAdd, Nat.reduceSub, Nat.reduceMul, Nat.reduceEqDiff, Nat.reduceLeDiff, Nat.reduceLT, Int.reduceAdd, Int.reduceSub, Int.reduceMul, Int.reduceNeg, Int.reduceEq, Int.reduceNe, Int.reduceLT, Int.reduceLE, Int.reduceToNat, Int.reduceTDiv, Int.reduceTMod, b2i_em]
theorem c_isDg0 {d : Nat} {M : mM} {K : mQ} {j : Int} (hj : 0 ≤ j ∧ j < 300) (h : ¬ isDg (M 60 j)) : mCall (d + 1) 82 [vr 59, vi j] M K = K (some (vi 0)) M := by
  unfold isDg at h
  by_cases c1 : 48 ≤ M 60 j
  · simp (disch := first | decide | omega) only [b82, w82_0, w82_1, w82_4, w82_5, w82_6, w82_8, w82_11, w82_12, w82_15, w82_16, w82_17, w82_19, w82_22, w82_23, w82_26, w82_27, tc59, tr59_0, ta60, tn60, xLoad_i, xLoad_l, xLoad_r, xInc_s, xBr_t, xBr_f, xNz_s, xGf_s, xPf_s, xPz_s, xLd_2, xLd_7, xLd_10, xLdb_3, xLdb_5, xLdb_9, xLdl_4, xLdr_6, xSt_2, xStl_4, xStb_3, xStb_5, xLen_s, xLen_10, xCpy_s, xIv_s, xMx_s, mCont_s, mCont_n, w32_s, w64_s, upC_e, upC_n, upC_u, upC_c, mEn_c, mEn_n, mcw_i, mcw_l, mcw_r, mcat_n, mcat_i, mcat_l, mcat_r, xlong_i, xlong_l, xlong_r, xlong_n, s1_at, s2_at, ↓reduceIte, reduceCtorEq, and_self, true_and, and_true, false_and, and_false, Bool.false_eq_true, ne_eq, not_true_eq_false, not_false_eq_true, or_true, true_or, or_false, false_or, or_self, Int.tmod_eq_emod_of_nonneg, Int.tdiv_eq_ediv_of_nonneg, Classical.not_not, xSw, rOK, b2i_ok, b2i_0, b2i_1, Nat.reduceAdd, Nat.reduceSub, Nat.reduceMul, Nat.reduceEqDiff, Nat.reduceLeDiff, Nat.reduceLT, Int.reduceAdd, Int.reduceSub, Int.reduceMul, Int.reduceNeg, Int.reduceEq, Int.reduceNe, Int.reduceLT, Int.reduceLE, Int.reduceToNat, Int.reduceTDiv, Int.reduceTMod, b2i_em]
  · simp (disch := first | decide | omega) only [b82, w82_0, w82_1, w82_4, w82_5, w82_6, w82_8, w82_11, w82_12, w82_15, w82_16, w82_17, w82_19, w82_22, w82_23, w82_26, w82_27, tc59, tr59_0, ta60, tn60, xLoad_i, xLoad_l, xLoad_r, xInc_s, xBr_t, xBr_f, xNz_s, xGf_s, xPf_s, xPz_s, xLd_2, xLd_7, xLd_10, xLdb_3, xLdb_5, xLdb_9, xLdl_4, xLdr_6, xSt_2, xStl_4, xStb_3, xStb_5, xLen_s, xLen_10, xCpy_s, xIv_s, xMx_s, mCont_s, mCont_n, w32_s, w64_s, upC_e, upC_n, upC_u, upC_c, mEn_c, mEn_n, mcw_i, mcw_l, mcw_r, mcat_n, mcat_i, mcat_l, mcat_r, xlong_i, xlong_l, xlong_r, xlong_n, s1_at, s2_at, ↓reduceIte, reduceCtorEq, and_self, true_and, and_true, false_and, and_false, Bool.false_eq_true, ne_eq, not_true_eq_false, not_false_eq_true, or_true, true_or, or_false, false_or, or_self, Int.tmod_eq_emod_of_nonneg, Int.tdiv_eq_ediv_of_nonneg, Classical.not_not, xSw, rOK, b2i_ok, b2i_0, b2i_1, Nat.reduceAdd, Nat.reduceSub, Nat.reduceMul, Nat.reduceEqDiff, Nat.reduceLeDiff, Nat.reduceLT, Int.reduceAdd, Int.reduceSub, Int.reduceMul, Int.reduceNeg, Int.reduceEq, Int.reduceNe, Int.reduceLT, Int.reduceLE, Int.reduceToNat, Int.reduceTDiv, Int.reduceTMod, b2i_em]
theorem c_isWord1 {d a b w : Nat} {M : mM} {K : mQ} (hk : KC M) (h2 : M 59 2 = b) (h3 : M 59 3 = a) (hb : a ≤ b ∧ b ≤ 300) (hw : w < 28) (h : wMt (M 60) a b w) : mCall (d + 5) 84 [vr 59, vi w] M K = K (some (vi 1)) M := by
  have wc : ∀ (d : Nat) (K : mQ) (i : Int), 0 ≤ i → i < 168 → mCall (d + 4) 287 [vr 147, vi i] M K = K (some (vi (CT 148 i))) M := fun d K i i0 i1 => by
    have := ct148 i.toNat (by omega)
    rw [show ((i.toNat : Nat) : Int) = i by omega, ← hk.2.1] at this
    rw [c_charAt hk.1 i0 i1 this, hk.2.1]
  simp (disch := first | decide | omega) only [b84, w84_0, w84_1, w84_3, w84_5, w84_8, w84_9, w84_12, w84_13, w84_14, w84_15, w84_18, w84_21, w84_22, w84_25, w84_26, w84_29, w84_30, w84_31, w84_32, w84_35, w84_37, w84_38, w84_40, w84_41, w84_43, w84_44, w84_45, w84_46, w84_49, w84_50, w84_53, w84_54, w84_55, w84_58, w84_61, w84_62, tc59, tr59_0, ta60, tn60, xLoad_i, xLoad_l, xLoad_r, xInc_s, xBr_t, xBr_f, xNz_s, xGf_s, xPf_s, xPz_s, xLd_2, xLd_7, xLd_10, xLdb_3, xLdb_5, xLdb_9, xLdl_4, xLdr_6, xSt_2, xStl_4, xStb_3, xStb_5, xLen_s, xLen_10, xCpy_s, xIv_s, xMx_s, mCont_s, mCont_n, w32_s, w64_s, upC_e, upC_n, upC_u, upC_c, mEn_c, mEn_n, mcw_i, mcw_l, mcw_r, mcat_n, mcat_i, mcat_l, mcat_r, xlong_i, xlong_l, xlong_r, xlong_n, s1_at, s2_at, ↓reduceIte, reduceCtorEq, and_self, true_and, and_true, false_and, and_false, Bool.false_eq_true, ne_eq, not_true_eq_false, not_false_eq_true, or_true, true_or, or_false, false_or, or_self, Int.tmod_eq_emod_of_nonneg, Int.tdiv_eq_ediv_of_nonneg, Classical.not_not, xSw, rOK, b2i_ok, b2i_0, b2i_1, Nat.reduceAdd, Nat.reduceSub, Nat.reduceMul, Nat.reduceEqDiff, Nat.reduceLeDiff, Nat.reduceLT, Int.reduceAdd, Int.reduceSub, Int.reduceMul, Int.reduceNeg, Int.reduceEq, Int.reduceNe, Int.reduceLT, Int.reduceLE, Int.reduceToNat, Int.reduceTDiv, Int.reduceTMod, b2i_em]
  refine loopL (P := fun i lv M' => M' = M ∧ lv 0 = some (vr 59) ∧ lv 1 = some (vi w) ∧ lv 2 = some (vi (i : Nat))) (G := fun lv M' => rn (d + 4) 84 K 2 lv [] M' = K (some (vi 1)) M) 6 0 (Nat.zero_le _) _ _ ⟨rfl, ?_, ?_, ?_⟩ (fun i hi ih lv M' hI => ?_) (fun lv M' hI => ?_)
  any_goals (simp [s1_at, s2_at, mEn_c, mcw_r, mcw_i, mcw_l, xlong_i, xlong_r, xlong_l, xlong_n]; done)
  · obtain ⟨rfl, g0, g1, g2⟩ := hI
    have q := h i hi
    rw [w84_2]
    by_cases c : (a : Int) + i < b
    · rw [if_pos c] at q
      simp (disch := first | decide | omega) only [b84, w84_0, w84_1, w84_3, w84_5, w84_8, w84_9, w84_12, w84_13, w84_14, w84_15, w84_18, w84_21, w84_22, w84_25, w84_26, w84_29, w84_30, w84_31, w84_32, w84_35, w84_37, w84_38, w84_40, w84_41, w84_43, w84_44, w84_45, w84_46, w84_49, w84_50, w84_53, w84_54, w84_55, w84_58, w84_61, w84_62, tc59, tr59_0, ta60, tn60, tc147, tr147_0, xLoad_i, xLoad_l, xLoad_r, xInc_s, xBr_t, xBr_f, xNz_s, xGf_s, xPf_s, xPz_s, xLd_2, xLd_7, xLd_10, xLdb_3, xLdb_5, xLdb_9, xLdl_4, xLdr_6, xSt_2, xStl_4, xStb_3, xStb_5, xLen_s, xLen_10, xCpy_s, xIv_s, xMx_s, mCont_s, mCont_n, w32_s, w64_s, upC_e, upC_n, upC_u, upC_c, mEn_c, mEn_n, mcw_i, mcw_l, mcw_r, mcat_n, mcat_i, mcat_l, mcat_r, xlong_i, xlong_l, xlong_r, xlong_n, s1_at, s2_at, ↓reduceIte, reduceCtorEq, and_self, true_and, and_true, false_and, and_false, Bool.false_eq_true, ne_eq, not_true_eq_false, not_false_eq_true, or_true, true_or, or_false, false_or, or_self, Int.tmod_eq_emod_of_nonneg, Int.tdiv_eq_ediv_of_nonneg, Classical.not_not, xSw, rOK, b2i_ok, b2i_0, b2i_1, Nat.reduceAdd, Nat.reduceSub, Nat.reduceMul, Nat.reduceEqDiff, Nat.reduceLeDiff, Nat.reduceLT, Int.reduceAdd, Int.reduceSub, Int.reduceMul, Int.reduceNeg, Int.reduceEq, Int.reduceNe, Int.reduceLT, Int.reduceLE, Int.reduceToNat, Int.reduceTDiv, Int.reduceTMod, b2i_em, g0, g1, g2, h2, h3, wc, q]
      refine ih _ _ ⟨rfl, ?_, ?_, ?_⟩
      all_goals simp [s1_at, s2_at, mEn_c, mcw_r, mcw_i, mcw_l, xlong_i, xlong_r, xlong_l, xlong_n, g0, g1, g2]
    · rw [if_neg c] at q
      simp (disch := first | decide | omega) only [b84, w84_0, w84_1, w84_3, w84_5, w84_8, w84_9, w84_12, w84_13, w84_14, w84_15, w84_18, w84_21, w84_22, w84_25, w84_26, w84_29, w84_30, w84_31, w84_32, w84_35, w84_37, w84_38, w84_40, w84_41, w84_43, w84_44, w84_45, w84_46, w84_49, w84_50, w84_53, w84_54, w84_55, w84_58, w84_61, w84_62, tc59, tr59_0, ta60, tn60, tc147, tr147_0, xLoad_i, xLoad_l, xLoad_r, xInc_s, xBr_t, xBr_f, xNz_s, xGf_s, xPf_s, xPz_s, xLd_2, xLd_7, xLd_10, xLdb_3, xLdb_5, xLdb_9, xLdl_4, xLdr_6, xSt_2, xStl_4, xStb_3, xStb_5, xLen_s, xLen_10, xCpy_s, xIv_s, xMx_s, mCont_s, mCont_n, w32_s, w64_s, upC_e, upC_n, upC_u, upC_c, mEn_c, mEn_n, mcw_i, mcw_l, mcw_r, mcat_n, mcat_i, mcat_l, mcat_r, xlong_i, xlong_l, xlong_r, xlong_n, s1_at, s2_at, ↓reduceIte, reduceCtorEq, and_self, true_and, and_true, false_and, and_false, Bool.false_eq_true, ne_eq, not_true_eq_false, not_false_eq_true, or_true, true_or, or_false, false_or, or_self, Int.tmod_eq_emod_of_nonneg, Int.tdiv_eq_ediv_of_nonneg, Classical.not_not, xSw, rOK, b2i_ok, b2i_0, b2i_1, Nat.reduceAdd, Nat.reduceSub, Nat.reduceMul, Nat.reduceEqDiff, Nat.reduceLeDiff, Nat.reduceLT, Int.reduceAdd, Int.reduceSub, Int.reduceMul, Int.reduceNeg, Int.reduceEq, Int.reduceNe, Int.reduceLT, Int.reduceLE, Int.reduceToNat, Int.reduceTDiv, Int.reduceTMod, b2i_em, g0, g1, g2, h2, h3, wc, q]
      refine ih _ _ ⟨rfl, ?_, ?_, ?_⟩
      all_goals simp [s1_at, s2_at, mEn_c, mcw_r, mcw_i, mcw_l, xlong_i, xlong_r, xlong_l, xlong_n, g0, g1, g2]
  · obtain ⟨rfl, g0, g1, g2⟩ := hI
    rw [w84_2]
    simp (disch := first | decide | omega) only [b84, w84_0, w84_1, w84_3, w84_5, w84_8, w84_9, w84_12, w84_13, w84_14, w84_15, w84_18, w84_21, w84_22, w84_25, w84_26, w84_29, w84_30, w84_31, w84_32, w84_35, w84_37, w84_38, w84_40, w84_41, w84_43, w84_44, w84_45, w84_46, w84_49, w84_50, w84_53, w84_54, w84_55, w84_58, w84_61, w84_62, tc59, tr59_0, ta60, tn60, tc147, tr147_0, xLoad_i, xLoad_l, xLoad_r, xInc_s, xBr_t, xBr_f, xNz_s, xGf_s, xPf_s, xPz_s, xLd_2, xLd_7, xLd_10, xLdb_3, xLdb_5, xLdb_9, xLdl_4, xLdr_6, xSt_2, xStl_4, xStb_3, xStb_5, xLen_s, xLen_10, xCpy_s, xIv_s, xMx_s, mCont_s, mCont_n, w32_s, w64_s, upC_e, upC_n, upC_u, upC_c, mEn_c, mEn_n, mcw_i, mcw_l, mcw_r, mcat_n, mcat_i, mcat_l, mcat_r, xlong_i, xlong_l, xlong_r, xlong_n, s1_at, s2_at, ↓reduceIte, reduceCtorEq, and_self, true_and, and_true, false_and, and_false, Bool.false_eq_true, ne_eq, not_true_eq_false, not_false_eq_true, or_true, true_or, or_false, false_or, or_self, Int.tmod_eq_emod_of_nonneg, Int.tdiv_eq_ediv_of_nonneg, Classical.not_not, xSw, rOK, b2i_ok, b2i_0, b2i_1, Nat.reduceAdd, Nat.reduceSub, Nat.reduceMul, Nat.reduceEqDiff, Nat.reduceLeDiff, Nat.reduceLT, Int.reduceAdd, Int.reduceSub, Int.reduceMul, Int.reduceNeg, Int.reduceEq, Int.reduceNe, Int.reduceLT, Int.reduceLE, Int.reduceToNat, Int.reduceTDiv, Int.reduceTMod, b2i_em, g0, g1, g2]
theorem c_isWord0 {d a b w : Nat} {M : mM} {K : mQ} (hk : KC M) (h2 : M 59 2 = b) (h3 : M 59 3 = a) (hb : a ≤ b ∧ b ≤ 300) (hw : w < 28) (h : ¬ wMt (M 60) a b w) : mCall (d + 5) 84 [vr 59, vi w] M K = K (some (vi 0)) M := by
  have wc : ∀ (d : Nat) (K : mQ) (i : Int), 0 ≤ i → i < 168 → mCall (d + 4) 287 [vr 147, vi i] M K = K (some (vi (CT 148 i))) M := fun d K i i0 i1 => by
    have := ct148 i.toNat (by omega)
    rw [show ((i.toNat : Nat) : Int) = i by omega, ← hk.2.1] at this
    rw [c_charAt hk.1 i0 i1 this, hk.2.1]
  simp (disch := first | decide | omega) only [b84, w84_0, w84_1, w84_3, w84_5, w84_8, w84_9, w84_12, w84_13, w84_14, w84_15, w84_18, w84_21, w84_22, w84_25, w84_26, w84_29, w84_30, w84_31, w84_32, w84_35, w84_37, w84_38, w84_40, w84_41, w84_43, w84_44, w84_45, w84_46, w84_49, w84_50, w84_53, w84_54, w84_55, w84_58, w84_61, w84_62, tc59, tr59_0, ta60, tn60, xLoad_i, xLoad_l, xLoad_r, xInc_s, xBr_t, xBr_f, xNz_s, xGf_s, xPf_s, xPz_s, xLd_2, xLd_7, xLd_10, xLdb_3, xLdb_5, xLdb_9, xLdl_4, xLdr_6, xSt_2, xStl_4, xStb_3, xStb_5, xLen_s, xLen_10, xCpy_s, xIv_s, xMx_s, mCont_s, mCont_n, w32_s, w64_s, upC_e, upC_n, upC_u, upC_c, mEn_c, mEn_n, mcw_i, mcw_l, mcw_r, mcat_n, mcat_i, mcat_l, mcat_r, xlong_i, xlong_l, xlong_r, xlong_n, s1_at, s2_at, ↓reduceIte, reduceCtorEq, and_self, true_and, and_true, false_and, and_false, Bool.false_eq_true, ne_eq, not_true_eq_false, not_false_eq_true, or_true, true_or, or_false, false_or, or_self, Int.tmod_eq_emod_of_nonneg, Int.tdiv_eq_ediv_of_nonneg, Classical.not_not, xSw, rOK, b2i_ok, b2i_0, b2i_1, Nat.reduceAdd, Nat.reduceSub, Nat.reduceMul, Nat.reduceEqDiff, Nat.reduceLeDiff, Nat.reduceLT, Int.reduceAdd, Int.reduceSub, Int.reduceMul, Int.reduceNeg, Int.reduceEq, Int.reduceNe, Int.reduceLT, Int.reduceLE, Int.reduceToNat, Int.reduceTDiv, Int.reduceTMod, b2i_em]
  refine loopL (P := fun i lv M' => M' = M ∧ (∀ j : Nat, j < i → CT 148 ((w : Int) * 6 + j) = if (a : Int) + j < b then M 60 ((a : Int) + j) else 32) ∧ lv 0 = some (vr 59) ∧ lv 1 = some (vi w) ∧ lv 2 = some (vi (i : Nat))) (G := fun lv M' => rn (d + 4) 84 K 2 lv [] M' = K (some (vi 0)) M) 6 0 (Nat.zero_le _) _ _ ⟨rfl, fun j hj => absurd hj (by omega), ?_, ?_, ?_⟩ (fun i hi ih lv M' hI => ?_) (fun lv M' hI => ?_)
  any_goals (simp [s1_at, s2_at, mEn_c, mcw_r, mcw_i, mcw_l, xlong_i, xlong_r, xlong_l, xlong_n]; done)
  · obtain ⟨rfl, ha, g0, g1, g2⟩ := hI
    have hs : (CT 148 ((w : Int) * 6 + i) = if (a : Int) + i < b then M' 60 ((a : Int) + i) else 32) → ∀ j : Nat, j < i + 1 → CT 148 ((w : Int) * 6 + j) = if (a : Int) + j < b then M' 60 ((a : Int) + j) else 32 := fun hk j hj => by
      by_cases e : j = i
      · rw [e]; exact hk
      · exact ha j (by omega)
    rw [w84_2]
    by_cases c : (a : Int) + i < b
    · rw [if_pos c] at hs
      by_cases q : CT 148 ((w : Int) * 6 + i) = M' 60 ((a : Int) + i)
      · have hs' := hs q
        clear hs
        simp (disch := first | decide | omega) only [b84, w84_0, w84_1, w84_3, w84_5, w84_8, w84_9, w84_12, w84_13, w84_14, w84_15, w84_18, w84_21, w84_22, w84_25, w84_26, w84_29, w84_30, w84_31, w84_32, w84_35, w84_37, w84_38, w84_40, w84_41, w84_43, w84_44, w84_45, w84_46, w84_49, w84_50, w84_53, w84_54, w84_55, w84_58, w84_61, w84_62, tc59, tr59_0, ta60, tn60, tc147, tr147_0, xLoad_i, xLoad_l, xLoad_r, xInc_s, xBr_t, xBr_f, xNz_s, xGf_s, xPf_s, xPz_s, xLd_2, xLd_7, xLd_10, xLdb_3, xLdb_5, xLdb_9, xLdl_4, xLdr_6, xSt_2, xStl_4, xStb_3, xStb_5, xLen_s, xLen_10, xCpy_s, xIv_s, xMx_s, mCont_s, mCont_n, w32_s, w64_s, upC_e, upC_n, upC_u, upC_c, mEn_c, mEn_n, mcw_i, mcw_l, mcw_r, mcat_n, mcat_i, mcat_l, mcat_r, xlong_i, xlong_l, xlong_r, xlong_n, s1_at, s2_at, ↓reduceIte, reduceCtorEq, and_self, true_and, and_true, false_and, and_false, Bool.false_eq_true, ne_eq, not_true_eq_false, not_false_eq_true, or_true, true_or, or_false, false_or, or_self, Int.tmod_eq_emod_of_nonneg, Int.tdiv_eq_ediv_of_nonneg, Classical.not_not, xSw, rOK, b2i_ok, b2i_0, b2i_1, Nat.reduceAdd, Nat.reduceSub, Nat.reduceMul, Nat.reduceEqDiff, Nat.reduceLeDiff, Nat.reduceLT, Int.reduceAdd, Int.reduceSub, Int.reduceMul, Int.reduceNeg, Int.reduceEq, Int.reduceNe, Int.reduceLT, Int.reduceLE, Int.reduceToNat, Int.reduceTDiv, Int.reduceTMod, b2i_em, g0, g1, g2, h2, h3, wc, q]
        refine ih _ _ ⟨rfl, hs', ?_, ?_, ?_⟩
        all_goals simp [s1_at, s2_at, mEn_c, mcw_r, mcw_i, mcw_l, xlong_i, xlong_r, xlong_l, xlong_n, g0, g1, g2]
      · simp (disch := first | decide | omega) only [b84, w84_0, w84_1, w84_3, w84_5, w84_8, w84_9, w84_12, w84_13, w84_14, w84_15, w84_18, w84_21, w84_22, w84_25, w84_26, w84_29, w84_30, w84_31, w84_32, w84_35, w84_37, w84_38, w84_40, w84_41, w84_43, w84_44, w84_45, w84_46, w84_49, w84_50, w84_53, w84_54, w84_55, w84_58, w84_61, w84_62, tc59, tr59_0, ta60, tn60, tc147, tr147_0, xLoad_i, xLoad_l, xLoad_r, xInc_s, xBr_t, xBr_f, xNz_s, xGf_s, xPf_s, xPz_s, xLd_2, xLd_7, xLd_10, xLdb_3, xLdb_5, xLdb_9, xLdl_4, xLdr_6, xSt_2, xStl_4, xStb_3, xStb_5, xLen_s, xLen_10, xCpy_s, xIv_s, xMx_s, mCont_s, mCont_n, w32_s, w64_s, upC_e, upC_n, upC_u, upC_c, mEn_c, mEn_n, mcw_i, mcw_l, mcw_r, mcat_n, mcat_i, mcat_l, mcat_r, xlong_i, xlong_l, xlong_r, xlong_n, s1_at, s2_at, ↓reduceIte, reduceCtorEq, and_self, true_and, and_true, false_and, and_false, Bool.false_eq_true, ne_eq, not_true_eq_false, not_false_eq_true, or_true, true_or, or_false, false_or, or_self, Int.tmod_eq_emod_of_nonneg, Int.tdiv_eq_ediv_of_nonneg, Classical.not_not, xSw, rOK, b2i_ok, b2i_0, b2i_1, Nat.reduceAdd, Nat.reduceSub, Nat.reduceMul, Nat.reduceEqDiff, Nat.reduceLeDiff, Nat.reduceLT, Int.reduceAdd, Int.reduceSub, Int.reduceMul, Int.reduceNeg, Int.reduceEq, Int.reduceNe, Int.reduceLT, Int.reduceLE, Int.reduceToNat, Int.reduceTDiv, Int.reduceTMod, b2i_em, g0, g1, g2, h2, h3, wc, q]
    · rw [if_neg c] at hs
      by_cases q : CT 148 ((w : Int) * 6 + i) = 32
      · have hs' := hs q
        clear hs
        simp (disch := first | decide | omega) only [b84, w84_0, w84_1, w84_3, w84_5, w84_8, w84_9, w84_12, w84_13, w84_14, w84_15, w84_18, w84_21, w84_22, w84_25, w84_26, w84_29, w84_30, w84_31, w84_32, w84_35, w84_37, w84_38, w84_40, w84_41, w84_43, w84_44, w84_45, w84_46, w84_49, w84_50, w84_53, w84_54, w84_55, w84_58, w84_61, w84_62, tc59, tr59_0, ta60, tn60, tc147, tr147_0, xLoad_i, xLoad_l, xLoad_r, xInc_s, xBr_t, xBr_f, xNz_s, xGf_s, xPf_s, xPz_s, xLd_2, xLd_7, xLd_10, xLdb_3, xLdb_5, xLdb_9, xLdl_4, xLdr_6, xSt_2, xStl_4, xStb_3, xStb_5, xLen_s, xLen_10, xCpy_s, xIv_s, xMx_s, mCont_s, mCont_n, w32_s, w64_s, upC_e, upC_n, upC_u, upC_c, mEn_c, mEn_n, mcw_i, mcw_l, mcw_r, mcat_n, mcat_i, mcat_l, mcat_r, xlong_i, xlong_l, xlong_r, xlong_n, s1_at, s2_at, ↓reduceIte, reduceCtorEq, and_self, true_and, and_true, false_and, and_false, Bool.false_eq_true, ne_eq, not_true_eq_false, not_false_eq_true, or_true, true_or, or_false, false_or, or_self, Int.tmod_eq_emod_of_nonneg, Int.tdiv_eq_ediv_of_nonneg, Classical.not_not, xSw, rOK, b2i_ok, b2i_0, b2i_1, Nat.reduceAdd, Nat.reduceSub, Nat.reduceMul, Nat.reduceEqDiff, Nat.reduceLeDiff, Nat.reduceLT, Int.reduceAdd, Int.reduceSub, Int.reduceMul, Int.reduceNeg, Int.reduceEq, Int.reduceNe, Int.reduceLT, Int.reduceLE, Int.reduceToNat, Int.reduceTDiv, Int.reduceTMod, b2i_em, g0, g1, g2, h2, h3, wc, q]
        refine ih _ _ ⟨rfl, hs', ?_, ?_, ?_⟩
        all_goals simp [s1_at, s2_at, mEn_c, mcw_r, mcw_i, mcw_l, xlong_i, xlong_r, xlong_l, xlong_n, g0, g1, g2]
      · simp (disch := first | decide | omega) only [b84, w84_0, w84_1, w84_3, w84_5, w84_8, w84_9, w84_12, w84_13, w84_14, w84_15, w84_18, w84_21, w84_22, w84_25, w84_26, w84_29, w84_30, w84_31, w84_32, w84_35, w84_37, w84_38, w84_40, w84_41, w84_43, w84_44, w84_45, w84_46, w84_49, w84_50, w84_53, w84_54, w84_55, w84_58, w84_61, w84_62, tc59, tr59_0, ta60, tn60, tc147, tr147_0, xLoad_i, xLoad_l, xLoad_r, xInc_s, xBr_t, xBr_f, xNz_s, xGf_s, xPf_s, xPz_s, xLd_2, xLd_7, xLd_10, xLdb_3, xLdb_5, xLdb_9, xLdl_4, xLdr_6, xSt_2, xStl_4, xStb_3, xStb_5, xLen_s, xLen_10, xCpy_s, xIv_s, xMx_s, mCont_s, mCont_n, w32_s, w64_s, upC_e, upC_n, upC_u, upC_c, mEn_c, mEn_n, mcw_i, mcw_l, mcw_r, mcat_n, mcat_i, mcat_l, mcat_r, xlong_i, xlong_l, xlong_r, xlong_n, s1_at, s2_at, ↓reduceIte, reduceCtorEq, and_self, true_and, and_true, false_and, and_false, Bool.false_eq_true, ne_eq, not_true_eq_false, not_false_eq_true, or_true, true_or, or_false, false_or, or_self, Int.tmod_eq_emod_of_nonneg, Int.tdiv_eq_ediv_of_nonneg, Classical.not_not, xSw, rOK, b2i_ok, b2i_0, b2i_1, Nat.reduceAdd, Nat.reduceSub, Nat.reduceMul, Nat.reduceEqDiff, Nat.reduceLeDiff, Nat.reduceLT, Int.reduceAdd, Int.reduceSub, Int.reduceMul, Int.reduceNeg, Int.reduceEq, Int.reduceNe, Int.reduceLT, Int.reduceLE, Int.reduceToNat, Int.reduceTDiv, Int.reduceTMod, b2i_em, g0, g1, g2, h2, h3, wc, q]
  · exact absurd hI.2.1 h
