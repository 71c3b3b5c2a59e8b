/-! text: the class takes a token of a law -/
theorem fl_dM {tn : Bool} : ∀ F : FR, okF tn F → fl F = List.replicate (nM F) 45 ++ fl (dM F)
  | [], h => h.elim
  | [(x, ws)], h => by
    have hx := h.1
    have e1 : dM [(x, ws)] = [(x, ws)] := by
      show (if x = 45 then dM [] else [(x, ws)]) = _
      rw [if_neg (by omega)]
    have e2 : nM [(x, ws)] = 0 := by
      show (if x = 45 then nM [] + 1 else 0) = _
      rw [if_neg (by omega)]
    rw [e1, e2]
    rfl
  | (x, ws) :: (y, us) :: F, h => by
    by_cases c : x = 45
    · have hs : ws = [] := by
        have h2 := h.2
        unfold isR at h2
        rcases h2 with q | q | q | q
        · exact q.2.1
        · exfalso; rcases q.1 with q1 | q1 <;> omega
        · have := q.1; omega
        · exact q.2.1
      have ih := fl_dM ((y, us) :: F) h.1
      have e1 : dM ((x, ws) :: (y, us) :: F) = dM ((y, us) :: F) := by
        show (if x = 45 then dM ((y, us) :: F) else _) = _
        rw [if_pos c]
      have e2 : nM ((x, ws) :: (y, us) :: F) = nM ((y, us) :: F) + 1 := by
        show (if x = 45 then nM ((y, us) :: F) + 1 else 0) = _
        rw [if_pos c]
      rw [e1, e2]
      show ws ++ (sy x ++ fl ((y, us) :: F)) = _
      rw [hs, ih, c]
      rfl
    · have e1 : dM ((x, ws) :: (y, us) :: F) = (x, ws) :: (y, us) :: F := by
        show (if x = 45 then dM ((y, us) :: F) else _) = _
        rw [if_neg c]
      have e2 : nM ((x, ws) :: (y, us) :: F) = 0 := by
        show (if x = 45 then nM ((y, us) :: F) + 1 else 0) = _
        rw [if_neg c]
      rw [e1, e2]
      rfl
theorem fl_fO {aA : Bool} {F : FR} : fl (fO aA F) = fl F := by
  cases aA <;> rfl
theorem c_isNm1 {d : Nat} {M : mM} {K : mQ} {k : Int} (h : isNm k) : mCall (d + 1) 66 [vi k] M K = K (some (vi 1)) M := by
  rcases h with h | h | h
  · subst h
    simp (disch := first | decide | omega) only [b66, w66_0, w66_1, w66_2, w66_5, w66_6, w66_8, w66_11, w66_12, w66_14, w66_17, w66_18, w66_20, w66_23, w66_24, w66_27, w66_28, xLoad_i, xLoad_l, xLoad_r, xInc_s, xBr_t, xBr_f, xNz_s, xGf_s, xPf_s, xPz_s, xLd_2, xLd_7, xLd_10, xLdb_3, xLdb_5, xLdb_9, xLdl_4, xLdr_6, xSt_2, xStl_4, xStb_3, xStb_5, xLen_s, xLen_10, xCpy_s, xIv_s, xMx_s, mCont_s, mCont_n, w32_s, w64_s, upC_e, upC_n, upC_u, upC_c, mEn_c, mEn_n, mcw_i, mcw_l, mcw_r, mcat_n, mcat_i, mcat_l, mcat_r, xlong_i, xlong_l, xlong_r, xlong_n, s1_at, s2_at, ↓reduceIte, reduceCtorEq, and_self, true_and, and_true, false_and, and_false, Bool.false_eq_true, ne_eq, not_true_eq_false, not_false_eq_true, or_true, true_or, or_false, false_or, or_self, Int.tmod_eq_emod_of_nonneg, Int.tdiv_eq_ediv_of_nonneg, Classical.not_not, xSw, rOK, b2i_ok, b2i_0, b2i_1, Nat.reduceAdd, Nat.reduceSub, Nat.reduceMul, Nat.reduceEqDiff, Nat.reduceLeDiff, Nat.reduceLT, Int.reduceAdd, Int.reduceSub, Int.reduceMul, Int.reduceNeg, Int.reduceEq, Int.reduceNe, Int.reduceLT, Int.reduceLE, Int.reduceToNat, Int.reduceTDiv, Int.reduceTMod, b2i_em]
  · subst h
    simp (disch := first | decide | omega) only [b66, w66_0, w66_1, w66_2, w66_5, w66_6, w66_8, w66_11, w66_12, w66_14, w66_17, w66_18, w66_20, w66_23, w66_24, w66_27, w66_28, xLoad_i, xLoad_l, xLoad_r, xInc_s, xBr_t, xBr_f, xNz_s, xGf_s, xPf_s, xPz_s, xLd_2, xLd_7, xLd_10, xLdb_3, xLdb_5, xLdb_9, xLdl_4, xLdr_6, xSt_2, xStl_4, xStb_3, xStb_5, xLen_s, xLen_10, xCpy_s, xIv_s, xMx_s, mCont_s, mCont_n, w32_s, w64_s, upC_e, upC_n, upC_u, upC_c, mEn_c, mEn_n, mcw_i, mcw_l, mcw_r, mcat_n, mcat_i, mcat_l, mcat_r, xlong_i, xlong_l, xlong_r, xlong_n, s1_at, s2_at, ↓reduceIte, reduceCtorEq, and_self, true_and, and_true, false_and, and_false, Bool.false_eq_true, ne_eq, not_true_eq_false, not_false_eq_true, or_true, true_or, or_false, false_or, or_self, Int.tmod_eq_emod_of_nonneg, Int.tdiv_eq_ediv_of_nonneg, Classical.not_not, xSw, rOK, b2i_ok, b2i_0, b2i_1, Nat.reduceAdd, Nat.reduceSub, Nat.reduceMul, Nat.reduceEqDiff, Nat.reduceLeDiff, Nat.reduceLT, Int.reduceAdd, Int.reduceSub, Int.reduceMul, Int.reduceNeg, Int.reduceEq, Int.reduceNe, Int.reduceLT, Int.reduceLE, Int.reduceToNat, Int.reduceTDiv, Int.reduceTMod, b2i_em]
  · have h5 : ¬ k = 5 := by omega
    have h8 : ¬ k = 8 := by omega
    simp (disch := first | decide | omega) only [b66, w66_0, w66_1, w66_2, w66_5, w66_6, w66_8, w66_11, w66_12, w66_14, w66_17, w66_18, w66_20, w66_23, w66_24, w66_27, w66_28, xLoad_i, xLoad_l, xLoad_r, xInc_s, xBr_t, xBr_f, xNz_s, xGf_s, xPf_s, xPz_s, xLd_2, xLd_7, xLd_10, xLdb_3, xLdb_5, xLdb_9, xLdl_4, xLdr_6, xSt_2, xStl_4, xStb_3, xStb_5, xLen_s, xLen_10, xCpy_s, xIv_s, xMx_s, mCont_s, mCont_n, w32_s, w64_s, upC_e, upC_n, upC_u, upC_c, mEn_c, mEn_n, mcw_i, mcw_l, mcw_r, mcat_n, mcat_i, mcat_l, mcat_r, xlong_i, xlong_l, xlong_r, xlong_n, s1_at, s2_at, ↓reduceIte, reduceCtorEq, and_self, true_and, and_true, false_and, and_false, Bool.false_eq_true, ne_eq, not_true_eq_false, not_false_eq_true, or_true, true_or, or_false, false_or, or_self, Int.tmod_eq_emod_of_nonneg, Int.tdiv_eq_ediv_of_nonneg, Classical.not_not, xSw, rOK, b2i_ok, b2i_0, b2i_1, Nat.reduceAdd, Nat.reduceSub, Nat.reduceMul, Nat.reduceEqDiff, Nat.reduceLeDiff, Nat.reduceLT, Int.reduceAdd, Int.reduceSub, Int.reduceMul, Int.reduceNeg, Int.reduceEq, Int.reduceNe, Int.reduceLT, Int.reduceLE, Int.reduceToNat, Int.reduceTDiv, Int.reduceTMod, b2i_em, h5, h8]
theorem c_isNm0 {d : Nat} {M : mM} {K : mQ} {k : Int} (h : ¬ isNm k) : mCall (d + 1) 66 [vi k] M K = K (some (vi 0)) M := by
  unfold isNm at h
  have h5 : ¬ k = 5 := by omega
  have h8 : ¬ k = 8 := by omega
  by_cases c : 15 ≤ k
  · simp (disch := first | decide | omega) only [b66, w66_0, w66_1, w66_2, w66_5, w66_6, w66_8, w66_11, w66_12, w66_14, w66_17, w66_18, w66_20, w66_23, w66_24, w66_27, w66_28, xLoad_i, xLoad_l, xLoad_r, xInc_s, xBr_t, xBr_f, xNz_s, xGf_s, xPf_s, xPz_s, xLd_2, xLd_7, xLd_10, xLdb_3, xLdb_5, xLdb_9, xLdl_4, xLdr_6, xSt_2, xStl_4, xStb_3, xStb_5, xLen_s, xLen_10, xCpy_s, xIv_s, xMx_s, mCont_s, mCont_n, w32_s, w64_s, upC_e, upC_n, upC_u, upC_c, mEn_c, mEn_n, mcw_i, mcw_l, mcw_r, mcat_n, mcat_i, mcat_l, mcat_r, xlong_i, xlong_l, xlong_r, xlong_n, s1_at, s2_at, ↓reduceIte, reduceCtorEq, and_self, true_and, and_true, false_and, and_false, Bool.false_eq_true, ne_eq, not_true_eq_false, not_false_eq_true, or_true, true_or, or_false, false_or, or_self, Int.tmod_eq_emod_of_nonneg, Int.tdiv_eq_ediv_of_nonneg, Classical.not_not, xSw, rOK, b2i_ok, b2i_0, b2i_1, Nat.reduceAdd, Nat.reduceSub, Nat.reduceMul, Nat.reduceEqDiff, Nat.reduceLeDiff, Nat.reduceLT, Int.reduceAdd, Int.reduceSub, Int.reduceMul, Int.reduceNeg, Int.reduceEq, Int.reduceNe, Int.reduceLT, Int.reduceLE, Int.reduceToNat, Int.reduceTDiv, Int.reduceTMod, b2i_em, h5, h8]
  · simp (disch := first | decide | omega) only [b66, w66_0, w66_1, w66_2, w66_5, w66_6, w66_8, w66_11, w66_12, w66_14, w66_17, w66_18, w66_20, w66_23, w66_24, w66_27, w66_28, xLoad_i, xLoad_l, xLoad_r, xInc_s, xBr_t, xBr_f, xNz_s, xGf_s, xPf_s, xPz_s, xLd_2, xLd_7, xLd_10, xLdb_3, xLdb_5, xLdb_9, xLdl_4, xLdr_6, xSt_2, xStl_4, xStb_3, xStb_5, xLen_s, xLen_10, xCpy_s, xIv_s, xMx_s, mCont_s, mCont_n, w32_s, w64_s, upC_e, upC_n, upC_u, upC_c, mEn_c, mEn_n, mcw_i, mcw_l, mcw_r, mcat_n, mcat_i, mcat_l, mcat_r, xlong_i, xlong_l, xlong_r, xlong_n, s1_at, s2_at, ↓reduceIte, reduceCtorEq, and_self, true_and, and_true, false_and, and_false, Bool.false_eq_true, ne_eq, not_true_eq_false, not_false_eq_true, or_true, true_or, or_false, false_or, or_self, Int.tmod_eq_emod_of_nonneg, Int.tdiv_eq_ediv_of_nonneg, Classical.not_not, xSw, rOK, b2i_ok, b2i_0, b2i_1, Nat.reduceAdd, Nat.reduceSub, Nat.reduceMul, Nat.reduceEqDiff, Nat.reduceLeDiff, Nat.reduceLT, Int.reduceAdd, Int.reduceSub, Int.reduceMul, Int.reduceNeg, Int.reduceEq, Int.reduceNe, Int.reduceLT, Int.reduceLE, Int.reduceToNat, Int.reduceTDiv, Int.reduceTMod, b2i_em, h5, h8]
theorem c_isOf {d : Nat} {M : mM} {K : mQ} {w k : Int} (h4 : M 61 4 = w) (hw : 0 ≤ w ∧ w ≤ 3) (h : isNm k) : (okN w (nNo k) → mCall (d + 1) 67 [vr 61, vi k] M K = K (some (vi 1)) M) ∧ (¬ okN w (nNo k) → mCall (d + 1) 67 [vr 61, vi k] M K = K (some (vi 0)) M) := by
  unfold okN nNo
  unfold isNm at h
  rcases (show k = 5 ∨ k = 8 ∨ k = 15 ∨ k = 16 ∨ k = 17 ∨ k = 18 ∨ k = 19 ∨ k = 20 ∨ k = 21 ∨ k = 22 ∨ k = 23 ∨ k = 24 ∨ k = 25 ∨ k = 26 ∨ k = 27 by omega) with rfl | rfl | rfl | rfl | rfl | rfl | rfl | rfl | rfl | rfl | rfl | rfl | rfl | rfl | rfl
  all_goals
    rcases (show w = 0 ∨ w = 1 ∨ w = 2 ∨ w = 3 by omega) with e | e | e | e
    all_goals
      rw [e] at h4
      subst e
      constructor
      all_goals
        intro g
        first
          | (exfalso; revert g; decide)
          | (simp (disch := first | decide | omega) only [b67, w67_0, w67_1, w67_2, w67_5, w67_6, w67_8, w67_11, w67_12, w67_13, w67_14, w67_16, w67_19, w67_20, w67_23, w67_24, w67_27, w67_28, w67_31, w67_32, w67_33, w67_34, w67_36, w67_39, w67_40, w67_43, w67_46, w67_47, w67_50, w67_51, w67_54, w67_55, w67_58, w67_59, w67_60, w67_61, w67_63, w67_66, w67_67, w67_70, w67_71, w67_74, w67_75, w67_78, w67_79, w67_82, w67_83, w67_86, w67_87, w67_90, w67_91, w67_94, w67_95, tc61, tr61_2, tr61_6, ta62, tn62, xLoad_i, xLoad_l, xLoad_r, xInc_s, xBr_t, xBr_f, xNz_s, xGf_s, xPf_s, xPz_s, xLd_2, xLd_7, xLd_10, xLdb_3, xLdb_5, xLdb_9, xLdl_4, xLdr_6, xSt_2, xStl_4, xStb_3, xStb_5, xLen_s, xLen_10, xCpy_s, xIv_s, xMx_s, mCont_s, mCont_n, w32_s, w64_s, upC_e, upC_n, upC_u, upC_c, mEn_c, mEn_n, mcw_i, mcw_l, mcw_r, mcat_n, mcat_i, mcat_l, mcat_r, xlong_i, xlong_l, xlong_r, xlong_n, s1_at, s2_at, ↓reduceIte, reduceCtorEq, and_self, true_and, and_true, false_and, and_false, Bool.false_eq_true, ne_eq, not_true_eq_false, not_false_eq_true, or_true, true_or, or_false, false_or, or_self, Int.tmod_eq_emod_of_nonneg, Int.tdiv_eq_ediv_of_nonneg, Classical.not_not, xSw, rOK, b2i_ok, b2i_0, b2i_1, Nat.reduceAdd, Nat.reduceSub, Nat.reduceMul, Nat.reduceEqDiff, Nat.reduceLeDiff, Nat.reduceLT, Int.reduceAdd, Int.reduceSub, Int.reduceMul, Int.reduceNeg, Int.reduceEq, Int.reduceNe, Int.reduceLT, Int.reduceLE, Int.reduceToNat, Int.reduceTDiv, Int.reduceTMod, b2i_em, h4]; done)
