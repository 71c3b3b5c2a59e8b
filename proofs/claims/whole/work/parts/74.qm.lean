/-! rest: what the others put on a bridge -/
def wPt (A : Int → Int) (L : List Nat) (pl : Int → Int) (b : Int) : Nat → Int
  | 0 => 0
  | i + 1 => if pl i = b then wPt A L pl b i + A (22 + 3 * (L.getD i 0 : Nat)) else wPt A L pl b i
def cPt (pl : Int → Int) (b : Int) : Nat → Int
  | 0 => 0
  | i + 1 => if pl i = b then cPt pl b i + 1 else cPt pl b i
theorem wPt_s {A : Int → Int} {L : List Nat} {pl : Int → Int} {b : Int} {i : Nat} : wPt A L pl b (i + 1) = if pl i = b then wPt A L pl b i + A (22 + 3 * (L.getD i 0 : Nat)) else wPt A L pl b i := rfl
theorem cPt_s {pl : Int → Int} {b : Int} {i : Nat} : cPt pl b (i + 1) = if pl i = b then cPt pl b i + 1 else cPt pl b i := rfl
theorem wPt_R {A : Int → Int} {L : List Nat} {pl : Int → Int} {b : Int} {n : Nat} (hw : ∀ i, i < n → 0 ≤ A (22 + 3 * (L.getD i 0 : Nat)) ∧ A (22 + 3 * (L.getD i 0 : Nat)) ≤ 60) : ∀ i, i ≤ n → 0 ≤ wPt A L pl b i ∧ wPt A L pl b i ≤ 60 * i
  | 0, _ => by unfold wPt; omega
  | i + 1, h => by
    have ih := wPt_R (pl := pl) (b := b) hw i (by omega)
    have := hw i (by omega)
    rw [wPt_s]
    split <;> omega
theorem cPt_R {pl : Int → Int} {b : Int} : ∀ i : Nat, 0 ≤ cPt pl b i ∧ cPt pl b i ≤ i
  | 0 => by unfold cPt; omega
  | i + 1 => by
    have ih := cPt_R (pl := pl) (b := b) i
    rw [cPt_s]
    split <;> omega
theorem wPt_c {A : Int → Int} {L : List Nat} {p1 p2 : Int → Int} {b : Int} : ∀ n : Nat, (∀ i : Nat, i < n → (p1 i = b ↔ p2 i = b)) → wPt A L p1 b n = wPt A L p2 b n
  | 0, _ => rfl
  | n + 1, h => by
    rw [wPt_s, wPt_s, wPt_c n (fun i hi => h i (by omega))]
    by_cases c : p1 n = b
    · rw [if_pos c, if_pos ((h n (by omega)).mp c)]
    · rw [if_neg c, if_neg (fun e => c ((h n (by omega)).mpr e))]
theorem cPt_c {p1 p2 : Int → Int} {b : Int} : ∀ n : Nat, (∀ i : Nat, i < n → (p1 i = b ↔ p2 i = b)) → cPt p1 b n = cPt p2 b n
  | 0, _ => rfl
  | n + 1, h => by
    rw [cPt_s, cPt_s, cPt_c n (fun i hi => h i (by omega))]
    by_cases c : p1 n = b
    · rw [if_pos c, if_pos ((h n (by omega)).mp c)]
    · rw [if_neg c, if_neg (fun e => c ((h n (by omega)).mpr e))]
theorem c_countPut {d n : Nat} {M : mM} {K : mQ} {b : Int} (hn : n ≤ 6) (h4 : M 94 4 = n) : mCall (d + 1) 73 [vr 94, vi b] M K = K (some (vi (cPt (M 96) b n))) M := by
  simp (disch := first | decide | omega) only [b73, w73_0, w73_1, w73_2, w73_3, w73_5, w73_6, w73_9, w73_12, w73_13, w73_16, w73_17, w73_18, w73_19, w73_22, w73_25, w73_28, w73_31, w73_32, tc94, tr94_0, tr94_1, tr94_2, tr94_3, ta95, tn95, ta96, tn96, xLoad_i, xLoad_l, xLoad_r, xInc_s, xBr_t, xBr_f, xNz_s, xGf_s, xPf_s, xPz_s, xLd_2, xLd_7, xLd_10, xLdb_3, xLdb_5, xLdb_9, xLdl_4, xLdr_6, xSt_2, xStl_4, xStb_3, xStb_5, xLen_s, xLen_10, xCpy_s, xIv_s, xMx_s, mCont_s, mCont_n, w32_s, w64_s, upC_e, upC_n, upC_u, upC_c, mEn_c, mEn_n, mcw_i, mcw_l, mcw_r, mcat_n, mcat_i, mcat_l, mcat_r, xlong_i, xlong_l, xlong_r, xlong_n, s1_at, s2_at, ↓reduceIte, reduceCtorEq, and_self, true_and, and_true, false_and, and_false, Bool.false_eq_true, ne_eq, not_true_eq_false, not_false_eq_true, or_true, true_or, or_false, false_or, or_self, Int.tmod_eq_emod_of_nonneg, Int.tdiv_eq_ediv_of_nonneg, Classical.not_not, xSw, rOK, b2i_ok, b2i_0, b2i_1, Nat.reduceAdd, Nat.reduceSub, Nat.reduceMul, Nat.reduceEqDiff, Nat.reduceLeDiff, Nat.reduceLT, Int.reduceAdd, Int.reduceSub, Int.reduceMul, Int.reduceNeg, Int.reduceEq, Int.reduceNe, Int.reduceLT, Int.reduceLE, Int.reduceToNat, Int.reduceTDiv, Int.reduceTMod, b2i_em, h4]
  refine loopL (P := fun k lv M' => M' = M ∧ lv 0 = some (vr 94) ∧ lv 1 = some (vi b) ∧ lv 2 = some (vi (cPt (M 96) b k)) ∧ lv 3 = some (vi (k : Nat))) (G := fun lv M' => rn d 73 K 4 lv [] M' = K (some (vi (cPt (M 96) b n))) M) n 0 (Nat.zero_le _) _ _ ⟨rfl, ?_, ?_, ?_, ?_⟩ (fun k hk ih lv M' hI => ?_) (fun lv M' hI => ?_)
  any_goals (simp [s1_at, s2_at, mEn_c, mcw_r, mcw_i, mcw_l, xlong_i, xlong_r, xlong_l, xlong_n, cPt]; done)
  · obtain ⟨rfl, g0, g1, g2, g3⟩ := hI
    have hs := cPt_s (pl := M' 96) (b := b) (i := k)
    have hR := cPt_R (pl := M' 96) (b := b) k
    rw [w73_4]
    by_cases c : M' 96 k = b
    · rw [if_pos c] at hs
      simp (disch := first | decide | omega) only [b73, w73_0, w73_1, w73_2, w73_3, w73_5, w73_6, w73_9, w73_12, w73_13, w73_16, w73_17, w73_18, w73_19, w73_22, w73_25, w73_28, w73_31, w73_32, tc94, tr94_0, tr94_1, tr94_2, tr94_3, ta95, tn95, ta96, tn96, xLoad_i, xLoad_l, xLoad_r, xInc_s, xBr_t, xBr_f, xNz_s, xGf_s, xPf_s, xPz_s, xLd_2, xLd_7, xLd_10, xLdb_3, xLdb_5, xLdb_9, xLdl_4, xLdr_6, xSt_2, xStl_4, xStb_3, xStb_5, xLen_s, xLen_10, xCpy_s, xIv_s, xMx_s, mCont_s, mCont_n, w32_s, w64_s, upC_e, upC_n, upC_u, upC_c, mEn_c, mEn_n, mcw_i, mcw_l, mcw_r, mcat_n, mcat_i, mcat_l, mcat_r, xlong_i, xlong_l, xlong_r, xlong_n, s1_at, s2_at, ↓reduceIte, reduceCtorEq, and_self, true_and, and_true, false_and, and_false, Bool.false_eq_true, ne_eq, not_true_eq_false, not_false_eq_true, or_true, true_or, or_false, false_or, or_self, Int.tmod_eq_emod_of_nonneg, Int.tdiv_eq_ediv_of_nonneg, Classical.not_not, xSw, rOK, b2i_ok, b2i_0, b2i_1, Nat.reduceAdd, Nat.reduceSub, Nat.reduceMul, Nat.reduceEqDiff, Nat.reduceLeDiff, Nat.reduceLT, Int.reduceAdd, Int.reduceSub, Int.reduceMul, Int.reduceNeg, Int.reduceEq, Int.reduceNe, Int.reduceLT, Int.reduceLE, Int.reduceToNat, Int.reduceTDiv, Int.reduceTMod, b2i_em, g0, g1, g2, g3, h4, c]
      refine ih _ _ ⟨rfl, ?_, ?_, ?_, ?_⟩
      all_goals simp [s1_at, s2_at, mEn_c, mcw_r, mcw_i, mcw_l, xlong_i, xlong_r, xlong_l, xlong_n, g0, g1, g2, g3, hs]
    · rw [if_neg c] at hs
      simp (disch := first | decide | omega) only [b73, w73_0, w73_1, w73_2, w73_3, w73_5, w73_6, w73_9, w73_12, w73_13, w73_16, w73_17, w73_18, w73_19, w73_22, w73_25, w73_28, w73_31, w73_32, tc94, tr94_0, tr94_1, tr94_2, tr94_3, ta95, tn95, ta96, tn96, xLoad_i, xLoad_l, xLoad_r, xInc_s, xBr_t, xBr_f, xNz_s, xGf_s, xPf_s, xPz_s, xLd_2, xLd_7, xLd_10, xLdb_3, xLdb_5, xLdb_9, xLdl_4, xLdr_6, xSt_2, xStl_4, xStb_3, xStb_5, xLen_s, xLen_10, xCpy_s, xIv_s, xMx_s, mCont_s, mCont_n, w32_s, w64_s, upC_e, upC_n, upC_u, upC_c, mEn_c, mEn_n, mcw_i, mcw_l, mcw_r, mcat_n, mcat_i, mcat_l, mcat_r, xlong_i, xlong_l, xlong_r, xlong_n, s1_at, s2_at, ↓reduceIte, reduceCtorEq, and_self, true_and, and_true, false_and, and_false, Bool.false_eq_true, ne_eq, not_true_eq_false, not_false_eq_true, or_true, true_or, or_false, false_or, or_self, Int.tmod_eq_emod_of_nonneg, Int.tdiv_eq_ediv_of_nonneg, Classical.not_not, xSw, rOK, b2i_ok, b2i_0, b2i_1, Nat.reduceAdd, Nat.reduceSub, Nat.reduceMul, Nat.reduceEqDiff, Nat.reduceLeDiff, Nat.reduceLT, Int.reduceAdd, Int.reduceSub, Int.reduceMul, Int.reduceNeg, Int.reduceEq, Int.reduceNe, Int.reduceLT, Int.reduceLE, Int.reduceToNat, Int.reduceTDiv, Int.reduceTMod, b2i_em, g0, g1, g2, g3, h4, c]
      refine ih _ _ ⟨rfl, ?_, ?_, ?_, ?_⟩
      all_goals simp [s1_at, s2_at, mEn_c, mcw_r, mcw_i, mcw_l, xlong_i, xlong_r, xlong_l, xlong_n, g0, g1, g2, g3, hs]
  · obtain ⟨rfl, g0, g1, g2, g3⟩ := hI
    rw [w73_4]
    simp (disch := first | decide | omega) only [b73, w73_0, w73_1, w73_2, w73_3, w73_5, w73_6, w73_9, w73_12, w73_13, w73_16, w73_17, w73_18, w73_19, w73_22, w73_25, w73_28, w73_31, w73_32, tc94, tr94_0, tr94_1, tr94_2, tr94_3, ta95, tn95, ta96, tn96, xLoad_i, xLoad_l, xLoad_r, xInc_s, xBr_t, xBr_f, xNz_s, xGf_s, xPf_s, xPz_s, xLd_2, xLd_7, xLd_10, xLdb_3, xLdb_5, xLdb_9, xLdl_4, xLdr_6, xSt_2, xStl_4, xStb_3, xStb_5, xLen_s, xLen_10, xCpy_s, xIv_s, xMx_s, mCont_s, mCont_n, w32_s, w64_s, upC_e, upC_n, upC_u, upC_c, mEn_c, mEn_n, mcw_i, mcw_l, mcw_r, mcat_n, mcat_i, mcat_l, mcat_r, xlong_i, xlong_l, xlong_r, xlong_n, s1_at, s2_at, ↓reduceIte, reduceCtorEq, and_self, true_and, and_true, false_and, and_false, Bool.false_eq_true, ne_eq, not_true_eq_false, not_false_eq_true, or_true, true_or, or_false, false_or, or_self, Int.tmod_eq_emod_of_nonneg, Int.tdiv_eq_ediv_of_nonneg, Classical.not_not, xSw, rOK, b2i_ok, b2i_0, b2i_1, Nat.reduceAdd, Nat.reduceSub, Nat.reduceMul, Nat.reduceEqDiff, Nat.reduceLeDiff, Nat.reduceLT, Int.reduceAdd, Int.reduceSub, Int.reduceMul, Int.reduceNeg, Int.reduceEq, Int.reduceNe, Int.reduceLT, Int.reduceLE, Int.reduceToNat, Int.reduceTDiv, Int.reduceTMod, b2i_em, g0, g1, g2, g3, h4]
theorem c_weightPut {d n : Nat} {M : mM} {K : mQ} {A : Int → Int} {L : List Nat} {b : Int} (hn : n ≤ 6) (h4 : M 94 4 = n) (hl : L.length = n) (hL : LO (M 95) L) (hl12 : ∀ i, i < n → L.getD i 0 < 12) (hw : ∀ l : Nat, l < 12 → M 6 l = A (22 + 3 * l)) (hA : ∀ l : Nat, l < 12 → 0 ≤ A (22 + 3 * l) ∧ A (22 + 3 * l) ≤ 60) : mCall (d + 1) 72 [vr 94, vi b] M K = K (some (vi (wPt A L (M 96) b n))) M := by
  simp (disch := first | decide | omega) only [b72, w72_0, w72_1, w72_2, w72_3, w72_5, w72_6, w72_9, w72_12, w72_13, w72_16, w72_17, w72_18, w72_19, w72_22, w72_23, w72_24, w72_27, w72_30, w72_31, w72_34, w72_35, w72_36, w72_37, w72_38, w72_39, w72_42, w72_45, w72_46, tc94, tr94_0, tr94_1, tr94_2, tr94_3, ta95, tn95, ta96, tn96, xLoad_i, xLoad_l, xLoad_r, xInc_s, xBr_t, xBr_f, xNz_s, xGf_s, xPf_s, xPz_s, xLd_2, xLd_7, xLd_10, xLdb_3, xLdb_5, xLdb_9, xLdl_4, xLdr_6, xSt_2, xStl_4, xStb_3, xStb_5, xLen_s, xLen_10, xCpy_s, xIv_s, xMx_s, mCont_s, mCont_n, w32_s, w64_s, upC_e, upC_n, upC_u, upC_c, mEn_c, mEn_n, mcw_i, mcw_l, mcw_r, mcat_n, mcat_i, mcat_l, mcat_r, xlong_i, xlong_l, xlong_r, xlong_n, s1_at, s2_at, ↓reduceIte, reduceCtorEq, and_self, true_and, and_true, false_and, and_false, Bool.false_eq_true, ne_eq, not_true_eq_false, not_false_eq_true, or_true, true_or, or_false, false_or, or_self, Int.tmod_eq_emod_of_nonneg, Int.tdiv_eq_ediv_of_nonneg, Classical.not_not, xSw, rOK, b2i_ok, b2i_0, b2i_1, Nat.reduceAdd, Nat.reduceSub, Nat.reduceMul, Nat.reduceEqDiff, Nat.reduceLeDiff, Nat.reduceLT, Int.reduceAdd, Int.reduceSub, Int.reduceMul, Int.reduceNeg, Int.reduceEq, Int.reduceNe, Int.reduceLT, Int.reduceLE, Int.reduceToNat, Int.reduceTDiv, Int.reduceTMod, b2i_em, h4]
  refine loopL (P := fun k lv M' => M' = M ∧ lv 0 = some (vr 94) ∧ lv 1 = some (vi b) ∧ lv 2 = some (vi (wPt A L (M 96) b k)) ∧ lv 3 = some (vi (k : Nat))) (G := fun lv M' => rn d 72 K 4 lv [] M' = K (some (vi (wPt A L (M 96) b n))) M) n 0 (Nat.zero_le _) _ _ ⟨rfl, ?_, ?_, ?_, ?_⟩ (fun k hk ih lv M' hI => ?_) (fun lv M' hI => ?_)
  any_goals (simp [s1_at, s2_at, mEn_c, mcw_r, mcw_i, mcw_l, xlong_i, xlong_r, xlong_l, xlong_n, wPt]; done)
  · obtain ⟨rfl, g0, g1, g2, g3⟩ := hI
    have hs := wPt_s (A := A) (L := L) (pl := M' 96) (b := b) (i := k)
    have hR := wPt_R (A := A) (L := L) (pl := M' 96) (b := b) (n := n) (fun i hi => hA _ (hl12 i hi)) k (by omega)
    have q1 := hL k (by omega)
    have q2 := hl12 k hk
    have q3 := hw _ q2
    have q4 := hA _ q2
    rw [w72_4]
    by_cases c : M' 96 k = b
    · rw [if_pos c] at hs
      simp (disch := first | decide | omega) only [b72, w72_0, w72_1, w72_2, w72_3, w72_5, w72_6, w72_9, w72_12, w72_13, w72_16, w72_17, w72_18, w72_19, w72_22, w72_23, w72_24, w72_27, w72_30, w72_31, w72_34, w72_35, w72_36, w72_37, w72_38, w72_39, w72_42, w72_45, w72_46, tc94, tr94_0, tr94_1, tr94_2, tr94_3, ta95, tn95, ta96, tn96, tc2, tr2_2, tr2_3, tr2_4, tr2_5, tr2_6, tr2_7, tr2_8, tr2_9, tr2_12, tr2_13, tr2_15, ta3, tn3, ta4, tn4, ta5, tn5, ta6, tn6, ta7, tn7, ta8, tn8, ta9, tn9, ta10, tn10, ta11, tn11, ta12, tn12, ta13, tn13, xLoad_i, xLoad_l, xLoad_r, xInc_s, xBr_t, xBr_f, xNz_s, xGf_s, xPf_s, xPz_s, xLd_2, xLd_7, xLd_10, xLdb_3, xLdb_5, xLdb_9, xLdl_4, xLdr_6, xSt_2, xStl_4, xStb_3, xStb_5, xLen_s, xLen_10, xCpy_s, xIv_s, xMx_s, mCont_s, mCont_n, w32_s, w64_s, upC_e, upC_n, upC_u, upC_c, mEn_c, mEn_n, mcw_i, mcw_l, mcw_r, mcat_n, mcat_i, mcat_l, mcat_r, xlong_i, xlong_l, xlong_r, xlong_n, s1_at, s2_at, ↓reduceIte, reduceCtorEq, and_self, true_and, and_true, false_and, and_false, Bool.false_eq_true, ne_eq, not_true_eq_false, not_false_eq_true, or_true, true_or, or_false, false_or, or_self, Int.tmod_eq_emod_of_nonneg, Int.tdiv_eq_ediv_of_nonneg, Classical.not_not, xSw, rOK, b2i_ok, b2i_0, b2i_1, Nat.reduceAdd, Nat.reduceSub, Nat.reduceMul, Nat.reduceEqDiff, Nat.reduceLeDiff, Nat.reduceLT, Int.reduceAdd, Int.reduceSub, Int.reduceMul, Int.reduceNeg, Int.reduceEq, Int.reduceNe, Int.reduceLT, Int.reduceLE, Int.reduceToNat, Int.reduceTDiv, Int.reduceTMod, b2i_em, g0, g1, g2, g3, h4, c, q1, q3]
      refine ih _ _ ⟨rfl, ?_, ?_, ?_, ?_⟩
      all_goals simp [s1_at, s2_at, mEn_c, mcw_r, mcw_i, mcw_l, xlong_i, xlong_r, xlong_l, xlong_n, g0, g1, g2, g3, hs]
    · rw [if_neg c] at hs
      simp (disch := first | decide | omega) only [b72, w72_0, w72_1, w72_2, w72_3, w72_5, w72_6, w72_9, w72_12, w72_13, w72_16, w72_17, w72_18, w72_19, w72_22, w72_23, w72_24, w72_27, w72_30, w72_31, w72_34, w72_35, w72_36, w72_37, w72_38, w72_39, w72_42, w72_45, w72_46, tc94, tr94_0, tr94_1, tr94_2, tr94_3, ta95, tn95, ta96, tn96, tc2, tr2_2, tr2_3, tr2_4, tr2_5, tr2_6, tr2_7, tr2_8, tr2_9, tr2_12, tr2_13, tr2_15, ta3, tn3, ta4, tn4, ta5, tn5, ta6, tn6, ta7, tn7, ta8, tn8, ta9, tn9, ta10, tn10, ta11, tn11, ta12, tn12, ta13, tn13, xLoad_i, xLoad_l, xLoad_r, xInc_s, xBr_t, xBr_f, xNz_s, xGf_s, xPf_s, xPz_s, xLd_2, xLd_7, xLd_10, xLdb_3, xLdb_5, xLdb_9, xLdl_4, xLdr_6, xSt_2, xStl_4, xStb_3, xStb_5, xLen_s, xLen_10, xCpy_s, xIv_s, xMx_s, mCont_s, mCont_n, w32_s, w64_s, upC_e, upC_n, upC_u, upC_c, mEn_c, mEn_n, mcw_i, mcw_l, mcw_r, mcat_n, mcat_i, mcat_l, mcat_r, xlong_i, xlong_l, xlong_r, xlong_n, s1_at, s2_at, ↓reduceIte, reduceCtorEq, and_self, true_and, and_true, false_and, and_false, Bool.false_eq_true, ne_eq, not_true_eq_false, not_false_eq_true, or_true, true_or, or_false, false_or, or_self, Int.tmod_eq_emod_of_nonneg, Int.tdiv_eq_ediv_of_nonneg, Classical.not_not, xSw, rOK, b2i_ok, b2i_0, b2i_1, Nat.reduceAdd, Nat.reduceSub, Nat.reduceMul, Nat.reduceEqDiff, Nat.reduceLeDiff, Nat.reduceLT, Int.reduceAdd, Int.reduceSub, Int.reduceMul, Int.reduceNeg, Int.reduceEq, Int.reduceNe, Int.reduceLT, Int.reduceLE, Int.reduceToNat, Int.reduceTDiv, Int.reduceTMod, b2i_em, g0, g1, g2, g3, h4, c]
      refine ih _ _ ⟨rfl, ?_, ?_, ?_, ?_⟩
      all_goals simp [s1_at, s2_at, mEn_c, mcw_r, mcw_i, mcw_l, xlong_i, xlong_r, xlong_l, xlong_n, g0, g1, g2, g3, hs]
  · obtain ⟨rfl, g0, g1, g2, g3⟩ := hI
    rw [w72_4]
    simp (disch := first | decide | omega) only [b72, w72_0, w72_1, w72_2, w72_3, w72_5, w72_6, w72_9, w72_12, w72_13, w72_16, w72_17, w72_18, w72_19, w72_22, w72_23, w72_24, w72_27, w72_30, w72_31, w72_34, w72_35, w72_36, w72_37, w72_38, w72_39, w72_42, w72_45, w72_46, tc94, tr94_0, tr94_1, tr94_2, tr94_3, ta95, tn95, ta96, tn96, xLoad_i, xLoad_l, xLoad_r, xInc_s, xBr_t, xBr_f, xNz_s, xGf_s, xPf_s, xPz_s, xLd_2, xLd_7, xLd_10, xLdb_3, xLdb_5, xLdb_9, xLdl_4, xLdr_6, xSt_2, xStl_4, xStb_3, xStb_5, xLen_s, xLen_10, xCpy_s, xIv_s, xMx_s, mCont_s, mCont_n, w32_s, w64_s, upC_e, upC_n, upC_u, upC_c, mEn_c, mEn_n, mcw_i, mcw_l, mcw_r, mcat_n, mcat_i, mcat_l, mcat_r, xlong_i, xlong_l, xlong_r, xlong_n, s1_at, s2_at, ↓reduceIte, reduceCtorEq, and_self, true_and, and_true, false_and, and_false, Bool.false_eq_true, ne_eq, not_true_eq_false, not_false_eq_true, or_true, true_or, or_false, false_or, or_self, Int.tmod_eq_emod_of_nonneg, Int.tdiv_eq_ediv_of_nonneg, Classical.not_not, xSw, rOK, b2i_ok, b2i_0, b2i_1, Nat.reduceAdd, Nat.reduceSub, Nat.reduceMul, Nat.reduceEqDiff, Nat.reduceLeDiff, Nat.reduceLT, Int.reduceAdd, Int.reduceSub, Int.reduceMul, Int.reduceNeg, Int.reduceEq, Int.reduceNe, Int.reduceLT, Int.reduceLE, Int.reduceToNat, Int.reduceTDiv, Int.reduceTMod, b2i_em, g0, g1, g2, g3, h4]
