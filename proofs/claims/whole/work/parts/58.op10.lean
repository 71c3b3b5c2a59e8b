/-! going, back a step, of a bridge -/
theorem CC_A {M : mM} {A : Int → Int} {ru : RU} (h : CC M A ru) : WS A ∧ WD A := ⟨h.1.2.2.1, h.1.2.2.2.1.1⟩
theorem op_go {l b : Int} : OPJ 120 227 [vi l, vi b] := by
  intro S d M lw h K hK
  obtain ⟨b0, b1, b4, -⟩ := J_b h
  simp (disch := first | decide | omega) only [b120, w120_0, w120_1, w120_4, w120_5, w120_6, w120_9, w120_12, w120_13, w120_16, w120_17, w120_20, w120_23, w120_24, tc1, tr1_0, tr1_1, tr1_2, tr1_3, tr1_4, tr1_5, tr1_6, tr1_7, tr1_8, tr1_9, tr1_10, tr1_11, tc2, tr2_2, tr2_3, tr2_4, tr2_5, tr2_6, tr2_7, tr2_8, tr2_9, tr2_12, tr2_13, tr2_15, ta3, tn3, ta4, tn4, ta5, tn5, ta6, tn6, ta7, tn7, ta8, tn8, ta9, tn9, ta10, tn10, ta11, tn11, ta12, tn12, ta13, tn13, xLoad_i, xLoad_l, xLoad_r, xInc_s, xBr_t, xBr_f, xNz_s, xGf_s, xPf_s, xPz_s, xLd_2, xLd_7, xLd_10, xLdb_3, xLdb_5, xLdb_9, xLdl_4, xLdr_6, xSt_2, xStl_4, xStb_3, xStb_5, xLen_s, xLen_10, xCpy_s, xIv_s, xMx_s, mCont_s, mCont_n, w32_s, w64_s, upC_e, upC_n, upC_u, upC_c, mEn_c, mEn_n, mcw_i, mcw_l, mcw_r, mcat_n, mcat_i, mcat_l, mcat_r, xlong_i, xlong_l, xlong_r, xlong_n, s1_at, s2_at, ↓reduceIte, reduceCtorEq, and_self, true_and, and_true, false_and, and_false, Bool.false_eq_true, ne_eq, not_true_eq_false, not_false_eq_true, or_true, true_or, or_false, false_or, or_self, Int.tmod_eq_emod_of_nonneg, Int.tdiv_eq_ediv_of_nonneg, Classical.not_not, xSw, rOK, b2i_ok, b2i_0, b2i_1, Nat.reduceAdd, Nat.reduceSub, Nat.reduceMul, Nat.reduceEqDiff, Nat.reduceLeDiff, Nat.reduceLT, Int.reduceAdd, Int.reduceSub, Int.reduceMul, Int.reduceNeg, Int.reduceEq, Int.reduceNe, Int.reduceLT, Int.reduceLE, Int.reduceToNat, Int.reduceTDiv, Int.reduceTMod, b2i_em]
  refine o_sendOn (J_CC h) (fun c M1 f1 h1 => ?_) (fun c => ?_)
  · have c' : (0 ≤ l ∧ l < M 98 1) ∧ (0 ≤ b ∧ b < M 98 0 ∧ M 98 (95 + b) = 0) ∧ M 98 (107 + l) = -1 := c
    obtain ⟨l, rfl⟩ := Int.eq_ofNat_of_zero_le c'.1.1
    obtain ⟨b, rfl⟩ := Int.eq_ofNat_of_zero_le c'.2.1.1
    have hb6 : b < 6 := by omega
    simp (disch := first | decide | omega) only [b120, w120_0, w120_1, w120_4, w120_5, w120_6, w120_9, w120_12, w120_13, w120_16, w120_17, w120_20, w120_23, w120_24, tc1, tr1_0, tr1_1, tr1_2, tr1_3, tr1_4, tr1_5, tr1_6, tr1_7, tr1_8, tr1_9, tr1_10, tr1_11, tc2, tr2_2, tr2_3, tr2_4, tr2_5, tr2_6, tr2_7, tr2_8, tr2_9, tr2_12, tr2_13, tr2_15, ta3, tn3, ta4, tn4, ta5, tn5, ta6, tn6, ta7, tn7, ta8, tn8, ta9, tn9, ta10, tn10, ta11, tn11, ta12, tn12, ta13, tn13, xLoad_i, xLoad_l, xLoad_r, xInc_s, xBr_t, xBr_f, xNz_s, xGf_s, xPf_s, xPz_s, xLd_2, xLd_7, xLd_10, xLdb_3, xLdb_5, xLdb_9, xLdl_4, xLdr_6, xSt_2, xStl_4, xStb_3, xStb_5, xLen_s, xLen_10, xCpy_s, xIv_s, xMx_s, mCont_s, mCont_n, w32_s, w64_s, upC_e, upC_n, upC_u, upC_c, mEn_c, mEn_n, mcw_i, mcw_l, mcw_r, mcat_n, mcat_i, mcat_l, mcat_r, xlong_i, xlong_l, xlong_r, xlong_n, s1_at, s2_at, ↓reduceIte, reduceCtorEq, and_self, true_and, and_true, false_and, and_false, Bool.false_eq_true, ne_eq, not_true_eq_false, not_false_eq_true, or_true, true_or, or_false, false_or, or_self, Int.tmod_eq_emod_of_nonneg, Int.tdiv_eq_ediv_of_nonneg, Classical.not_not, xSw, rOK, b2i_ok, b2i_0, b2i_1, Nat.reduceAdd, Nat.reduceSub, Nat.reduceMul, Nat.reduceEqDiff, Nat.reduceLeDiff, Nat.reduceLT, Int.reduceAdd, Int.reduceSub, Int.reduceMul, Int.reduceNeg, Int.reduceEq, Int.reduceNe, Int.reduceLT, Int.reduceLE, Int.reduceToNat, Int.reduceTDiv, Int.reduceTMod, b2i_em]
    rw [a_borne (CC_CX h1) hb6]
    simp (disch := first | decide | omega) only [b120, w120_0, w120_1, w120_4, w120_5, w120_6, w120_9, w120_12, w120_13, w120_16, w120_17, w120_20, w120_23, w120_24, tc1, tr1_0, tr1_1, tr1_2, tr1_3, tr1_4, tr1_5, tr1_6, tr1_7, tr1_8, tr1_9, tr1_10, tr1_11, tc2, tr2_2, tr2_3, tr2_4, tr2_5, tr2_6, tr2_7, tr2_8, tr2_9, tr2_12, tr2_13, tr2_15, ta3, tn3, ta4, tn4, ta5, tn5, ta6, tn6, ta7, tn7, ta8, tn8, ta9, tn9, ta10, tn10, ta11, tn11, ta12, tn12, ta13, tn13, xLoad_i, xLoad_l, xLoad_r, xInc_s, xBr_t, xBr_f, xNz_s, xGf_s, xPf_s, xPz_s, xLd_2, xLd_7, xLd_10, xLdb_3, xLdb_5, xLdb_9, xLdl_4, xLdr_6, xSt_2, xStl_4, xStb_3, xStb_5, xLen_s, xLen_10, xCpy_s, xIv_s, xMx_s, mCont_s, mCont_n, w32_s, w64_s, upC_e, upC_n, upC_u, upC_c, mEn_c, mEn_n, mcw_i, mcw_l, mcw_r, mcat_n, mcat_i, mcat_l, mcat_r, xlong_i, xlong_l, xlong_r, xlong_n, s1_at, s2_at, ↓reduceIte, reduceCtorEq, and_self, true_and, and_true, false_and, and_false, Bool.false_eq_true, ne_eq, not_true_eq_false, not_false_eq_true, or_true, true_or, or_false, false_or, or_self, Int.tmod_eq_emod_of_nonneg, Int.tdiv_eq_ediv_of_nonneg, Classical.not_not, xSw, rOK, b2i_ok, b2i_0, b2i_1, Nat.reduceAdd, Nat.reduceSub, Nat.reduceMul, Nat.reduceEqDiff, Nat.reduceLeDiff, Nat.reduceLT, Int.reduceAdd, Int.reduceSub, Int.reduceMul, Int.reduceNeg, Int.reduceEq, Int.reduceNe, Int.reduceLT, Int.reduceLE, Int.reduceToNat, Int.reduceTDiv, Int.reduceTMod, b2i_em]
    have e98 : M1 98 = M 98 := f1 98 (by decide)
    refine hK _ _ (fun K2 hK2 => ?_)
    rw [← e98] at b0 b1 b4 c'
    have w := CC_A h1
    simp (disch := first | decide | omega) only [b227, w227_0, w227_1, w227_2, w227_3, w227_6, w227_9, w227_10, w227_11, w227_12, w227_15, w227_16, w227_17, w227_18, w227_21, w227_22, w227_25, w227_26, w227_29, w227_30, w227_31, tc97, tr97_0, tr97_1, tr97_2, tr97_6, tr97_7, tr97_8, tr97_9, tr97_10, tr97_11, tr97_12, tr97_22, tr97_23, tr97_25, tr97_26, tr97_30, tr97_31, tr97_32, tr97_33, tr97_35, tr97_36, tr97_37, tr97_38, tr97_40, tr97_41, tr97_42, tr97_43, tr97_44, tr97_45, tr97_46, tr97_47, tr97_48, tr97_49, tr97_50, tr97_51, tr97_52, tr97_53, tr97_54, tr97_55, tr97_56, tr97_57, tr97_58, tr97_59, tr97_60, tr97_61, ta98, tn98, ta99, tn99, ta100, tn100, ta101, tn101, ta102, tn102, ta103, tn103, ta104, tn104, ta105, tn105, ta106, tn106, ta107, tn107, ta108, tn108, ta109, tn109, ta110, tn110, ta111, tn111, ta112, tn112, ta113, tn113, ta114, tn114, ta115, tn115, ta116, tn116, ta117, tn117, ta118, tn118, ta119, tn119, ta120, tn120, ta121, tn121, ta122, tn122, ta123, tn123, ta124, tn124, ta125, tn125, ta126, tn126, ta127, tn127, ta128, tn128, ta129, tn129, ta130, tn130, ta131, tn131, ta132, tn132, ta133, tn133, ta134, tn134, ta135, tn135, ta136, tn136, ta137, tn137, ta138, tn138, ta139, tn139, ta140, tn140, ta141, tn141, xLoad_i, xLoad_l, xLoad_r, xInc_s, xBr_t, xBr_f, xNz_s, xGf_s, xPf_s, xPz_s, xLd_2, xLd_7, xLd_10, xLdb_3, xLdb_5, xLdb_9, xLdl_4, xLdr_6, xSt_2, xStl_4, xStb_3, xStb_5, xLen_s, xLen_10, xCpy_s, xIv_s, xMx_s, mCont_s, mCont_n, w32_s, w64_s, upC_e, upC_n, upC_u, upC_c, mEn_c, mEn_n, mcw_i, mcw_l, mcw_r, mcat_n, mcat_i, mcat_l, mcat_r, xlong_i, xlong_l, xlong_r, xlong_n, s1_at, s2_at, ↓reduceIte, reduceCtorEq, and_self, true_and, and_true, false_and, and_false, Bool.false_eq_true, ne_eq, not_true_eq_false, not_false_eq_true, or_true, true_or, or_false, false_or, or_self, Int.tmod_eq_emod_of_nonneg, Int.tdiv_eq_ediv_of_nonneg, Classical.not_not, xSw, rOK, b2i_ok, b2i_0, b2i_1, Nat.reduceAdd, Nat.reduceSub, Nat.reduceMul, Nat.reduceEqDiff, Nat.reduceLeDiff, Nat.reduceLT, Int.reduceAdd, Int.reduceSub, Int.reduceMul, Int.reduceNeg, Int.reduceEq, Int.reduceNe, Int.reduceLT, Int.reduceLE, Int.reduceToNat, Int.reduceTDiv, Int.reduceTMod, b2i_em, r_canGo, b2i_t, r_keepsStep, r_goesOn2]
    rw [e98]
    have hA : aGo (M 98) l b = mU (mU (kpA (M 98)) (107 + l) b) (119 + l) 0 := rfl
    rw [← hA]
    refine r_laysNow (by rw [upC_e]; exact w.1) (by rw [upC_e]; exact w.2) (fun M2 f2 q97 hl hB => ?_)
    rw [upC_e] at q97 hl hB
    have q126 := (hB b hb6).1
    simp (disch := first | decide | omega) only [b227, w227_0, w227_1, w227_2, w227_3, w227_6, w227_9, w227_10, w227_11, w227_12, w227_15, w227_16, w227_17, w227_18, w227_21, w227_22, w227_25, w227_26, w227_29, w227_30, w227_31, tc97, tr97_0, tr97_1, tr97_2, tr97_6, tr97_7, tr97_8, tr97_9, tr97_10, tr97_11, tr97_12, tr97_22, tr97_23, tr97_25, tr97_26, tr97_30, tr97_31, tr97_32, tr97_33, tr97_35, tr97_36, tr97_37, tr97_38, tr97_40, tr97_41, tr97_42, tr97_43, tr97_44, tr97_45, tr97_46, tr97_47, tr97_48, tr97_49, tr97_50, tr97_51, tr97_52, tr97_53, tr97_54, tr97_55, tr97_56, tr97_57, tr97_58, tr97_59, tr97_60, tr97_61, ta98, tn98, ta99, tn99, ta100, tn100, ta101, tn101, ta102, tn102, ta103, tn103, ta104, tn104, ta105, tn105, ta106, tn106, ta107, tn107, ta108, tn108, ta109, tn109, ta110, tn110, ta111, tn111, ta112, tn112, ta113, tn113, ta114, tn114, ta115, tn115, ta116, tn116, ta117, tn117, ta118, tn118, ta119, tn119, ta120, tn120, ta121, tn121, ta122, tn122, ta123, tn123, ta124, tn124, ta125, tn125, ta126, tn126, ta127, tn127, ta128, tn128, ta129, tn129, ta130, tn130, ta131, tn131, ta132, tn132, ta133, tn133, ta134, tn134, ta135, tn135, ta136, tn136, ta137, tn137, ta138, tn138, ta139, tn139, ta140, tn140, ta141, tn141, xLoad_i, xLoad_l, xLoad_r, xInc_s, xBr_t, xBr_f, xNz_s, xGf_s, xPf_s, xPz_s, xLd_2, xLd_7, xLd_10, xLdb_3, xLdb_5, xLdb_9, xLdl_4, xLdr_6, xSt_2, xStl_4, xStb_3, xStb_5, xLen_s, xLen_10, xCpy_s, xIv_s, xMx_s, mCont_s, mCont_n, w32_s, w64_s, upC_e, upC_n, upC_u, upC_c, mEn_c, mEn_n, mcw_i, mcw_l, mcw_r, mcat_n, mcat_i, mcat_l, mcat_r, xlong_i, xlong_l, xlong_r, xlong_n, s1_at, s2_at, ↓reduceIte, reduceCtorEq, and_self, true_and, and_true, false_and, and_false, Bool.false_eq_true, ne_eq, not_true_eq_false, not_false_eq_true, or_true, true_or, or_false, false_or, or_self, Int.tmod_eq_emod_of_nonneg, Int.tdiv_eq_ediv_of_nonneg, Classical.not_not, xSw, rOK, b2i_ok, b2i_0, b2i_1, Nat.reduceAdd, Nat.reduceSub, Nat.reduceMul, Nat.reduceEqDiff, Nat.reduceLeDiff, Nat.reduceLT, Int.reduceAdd, Int.reduceSub, Int.reduceMul, Int.reduceNeg, Int.reduceEq, Int.reduceNe, Int.reduceLT, Int.reduceLE, Int.reduceToNat, Int.reduceTDiv, Int.reduceTMod, b2i_em, q126]
    refine hK2 _ lw (J_step h (fr_mono f1 (by decide)) (by rw [f2 98 (by decide), upC_e]; exact h1.1) h1.2.1 (fr_tr (fr_in (k := 98) (by decide)) f2 (fun _ h => h) (by decide)) (fun i hi => by rw [q97, mU_n (by omega), upC_n (by decide)]) ?_)
    rw [f2 98 (by decide), upC_e, hA]
    rw [e98] at b4
    simp (disch := first | decide | omega) only [upC_e, upC_n, mU_e, mU_n, kpA_lo]
  · have c' : ¬ ((0 ≤ l ∧ l < M 98 1) ∧ (0 ≤ b ∧ b < M 98 0 ∧ M 98 (95 + b) = 0) ∧ M 98 (107 + l) = -1) := c
    simp (disch := first | decide | omega) only [b120, w120_0, w120_1, w120_4, w120_5, w120_6, w120_9, w120_12, w120_13, w120_16, w120_17, w120_20, w120_23, w120_24, tc1, tr1_0, tr1_1, tr1_2, tr1_3, tr1_4, tr1_5, tr1_6, tr1_7, tr1_8, tr1_9, tr1_10, tr1_11, tc2, tr2_2, tr2_3, tr2_4, tr2_5, tr2_6, tr2_7, tr2_8, tr2_9, tr2_12, tr2_13, tr2_15, ta3, tn3, ta4, tn4, ta5, tn5, ta6, tn6, ta7, tn7, ta8, tn8, ta9, tn9, ta10, tn10, ta11, tn11, ta12, tn12, ta13, tn13, xLoad_i, xLoad_l, xLoad_r, xInc_s, xBr_t, xBr_f, xNz_s, xGf_s, xPf_s, xPz_s, xLd_2, xLd_7, xLd_10, xLdb_3, xLdb_5, xLdb_9, xLdl_4, xLdr_6, xSt_2, xStl_4, xStb_3, xStb_5, xLen_s, xLen_10, xCpy_s, xIv_s, xMx_s, mCont_s, mCont_n, w32_s, w64_s, upC_e, upC_n, upC_u, upC_c, mEn_c, mEn_n, mcw_i, mcw_l, mcw_r, mcat_n, mcat_i, mcat_l, mcat_r, xlong_i, xlong_l, xlong_r, xlong_n, s1_at, s2_at, ↓reduceIte, reduceCtorEq, and_self, true_and, and_true, false_and, and_false, Bool.false_eq_true, ne_eq, not_true_eq_false, not_false_eq_true, or_true, true_or, or_false, false_or, or_self, Int.tmod_eq_emod_of_nonneg, Int.tdiv_eq_ediv_of_nonneg, Classical.not_not, xSw, rOK, b2i_ok, b2i_0, b2i_1, Nat.reduceAdd, Nat.reduceSub, Nat.reduceMul, Nat.reduceEqDiff, Nat.reduceLeDiff, Nat.reduceLT, Int.reduceAdd, Int.reduceSub, Int.reduceMul, Int.reduceNeg, Int.reduceEq, Int.reduceNe, Int.reduceLT, Int.reduceLE, Int.reduceToNat, Int.reduceTDiv, Int.reduceTMod, b2i_em]
    refine hK _ _ (fun K2 hK2 => ?_)
    have hr := hK2 _ lw h
    simp (disch := first | decide | omega) only [b227, w227_0, w227_1, w227_2, w227_3, w227_6, w227_9, w227_10, w227_11, w227_12, w227_15, w227_16, w227_17, w227_18, w227_21, w227_22, w227_25, w227_26, w227_29, w227_30, w227_31, tc97, tr97_0, tr97_1, tr97_2, tr97_6, tr97_7, tr97_8, tr97_9, tr97_10, tr97_11, tr97_12, tr97_22, tr97_23, tr97_25, tr97_26, tr97_30, tr97_31, tr97_32, tr97_33, tr97_35, tr97_36, tr97_37, tr97_38, tr97_40, tr97_41, tr97_42, tr97_43, tr97_44, tr97_45, tr97_46, tr97_47, tr97_48, tr97_49, tr97_50, tr97_51, tr97_52, tr97_53, tr97_54, tr97_55, tr97_56, tr97_57, tr97_58, tr97_59, tr97_60, tr97_61, ta98, tn98, ta99, tn99, ta100, tn100, ta101, tn101, ta102, tn102, ta103, tn103, ta104, tn104, ta105, tn105, ta106, tn106, ta107, tn107, ta108, tn108, ta109, tn109, ta110, tn110, ta111, tn111, ta112, tn112, ta113, tn113, ta114, tn114, ta115, tn115, ta116, tn116, ta117, tn117, ta118, tn118, ta119, tn119, ta120, tn120, ta121, tn121, ta122, tn122, ta123, tn123, ta124, tn124, ta125, tn125, ta126, tn126, ta127, tn127, ta128, tn128, ta129, tn129, ta130, tn130, ta131, tn131, ta132, tn132, ta133, tn133, ta134, tn134, ta135, tn135, ta136, tn136, ta137, tn137, ta138, tn138, ta139, tn139, ta140, tn140, ta141, tn141, xLoad_i, xLoad_l, xLoad_r, xInc_s, xBr_t, xBr_f, xNz_s, xGf_s, xPf_s, xPz_s, xLd_2, xLd_7, xLd_10, xLdb_3, xLdb_5, xLdb_9, xLdl_4, xLdr_6, xSt_2, xStl_4, xStb_3, xStb_5, xLen_s, xLen_10, xCpy_s, xIv_s, xMx_s, mCont_s, mCont_n, w32_s, w64_s, upC_e, upC_n, upC_u, upC_c, mEn_c, mEn_n, mcw_i, mcw_l, mcw_r, mcat_n, mcat_i, mcat_l, mcat_r, xlong_i, xlong_l, xlong_r, xlong_n, s1_at, s2_at, ↓reduceIte, reduceCtorEq, and_self, true_and, and_true, false_and, and_false, Bool.false_eq_true, ne_eq, not_true_eq_false, not_false_eq_true, or_true, true_or, or_false, false_or, or_self, Int.tmod_eq_emod_of_nonneg, Int.tdiv_eq_ediv_of_nonneg, Classical.not_not, xSw, rOK, b2i_ok, b2i_0, b2i_1, Nat.reduceAdd, Nat.reduceSub, Nat.reduceMul, Nat.reduceEqDiff, Nat.reduceLeDiff, Nat.reduceLT, Int.reduceAdd, Int.reduceSub, Int.reduceMul, Int.reduceNeg, Int.reduceEq, Int.reduceNe, Int.reduceLT, Int.reduceLE, Int.reduceToNat, Int.reduceTDiv, Int.reduceTMod, b2i_em, r_canGo, b2i_f]
    exact hr
/-- back a step -/
def unA (A : Int → Int) : Int → Int := mU (fun i => if 80 ≤ i ∧ i < 292 then A (300 + 212 * (A 4 - 1) + (i - 80)) else A i) 4 (A 4 - 1)
theorem r_undo {d : Nat} {M : mM} {K : mQ} (h4 : 0 ≤ M 98 4 ∧ M 98 4 ≤ 30) (hy : 0 < M 98 4 → K (some (vi (M 98 4 - 1))) (upC M 98 (unA (M 98)))) (hn : M 98 4 = 0 → K (some (vi (-1))) M) : mCall (d + 1) 171 [vr 97] M K := by
  by_cases c : M 98 4 = 0
  · have := hn c
    simp (disch := first | decide | omega) only [b171, w171_0, w171_1, w171_4, w171_5, w171_6, w171_9, w171_10, w171_11, w171_12, w171_15, w171_16, w171_17, w171_18, w171_19, w171_20, w171_21, w171_22, w171_24, w171_27, w171_30, w171_31, w171_34, w171_36, w171_37, w171_38, w171_39, w171_42, w171_45, w171_48, w171_49, w171_52, w171_53, w171_54, w171_55, w171_56, w171_57, w171_58, w171_59, w171_60, w171_63, w171_66, w171_67, w171_70, w171_71, w171_72, tc97, tr97_0, tr97_1, tr97_2, tr97_6, tr97_7, tr97_8, tr97_9, tr97_10, tr97_11, tr97_12, tr97_22, tr97_23, tr97_25, tr97_26, tr97_30, tr97_31, tr97_32, tr97_33, tr97_35, tr97_36, tr97_37, tr97_38, tr97_40, tr97_41, tr97_42, tr97_43, tr97_44, tr97_45, tr97_46, tr97_47, tr97_48, tr97_49, tr97_50, tr97_51, tr97_52, tr97_53, tr97_54, tr97_55, tr97_56, tr97_57, tr97_58, tr97_59, tr97_60, tr97_61, ta98, tn98, ta99, tn99, ta100, tn100, ta101, tn101, ta102, tn102, ta103, tn103, ta104, tn104, ta105, tn105, ta106, tn106, ta107, tn107, ta108, tn108, ta109, tn109, ta110, tn110, ta111, tn111, ta112, tn112, ta113, tn113, ta114, tn114, ta115, tn115, ta116, tn116, ta117, tn117, ta118, tn118, ta119, tn119, ta120, tn120, ta121, tn121, ta122, tn122, ta123, tn123, ta124, tn124, ta125, tn125, ta126, tn126, ta127, tn127, ta128, tn128, ta129, tn129, ta130, tn130, ta131, tn131, ta132, tn132, ta133, tn133, ta134, tn134, ta135, tn135, ta136, tn136, ta137, tn137, ta138, tn138, ta139, tn139, ta140, tn140, ta141, tn141, xLoad_i, xLoad_l, xLoad_r, xInc_s, xBr_t, xBr_f, xNz_s, xGf_s, xPf_s, xPz_s, xLd_2, xLd_7, xLd_10, xLdb_3, xLdb_5, xLdb_9, xLdl_4, xLdr_6, xSt_2, xStl_4, xStb_3, xStb_5, xLen_s, xLen_10, xCpy_s, xIv_s, xMx_s, mCont_s, mCont_n, w32_s, w64_s, upC_e, upC_n, upC_u, upC_c, mEn_c, mEn_n, mcw_i, mcw_l, mcw_r, mcat_n, mcat_i, mcat_l, mcat_r, xlong_i, xlong_l, xlong_r, xlong_n, s1_at, s2_at, ↓reduceIte, reduceCtorEq, and_self, true_and, and_true, false_and, and_false, Bool.false_eq_true, ne_eq, not_true_eq_false, not_false_eq_true, or_true, true_or, or_false, false_or, or_self, Int.tmod_eq_emod_of_nonneg, Int.tdiv_eq_ediv_of_nonneg, Classical.not_not, xSw, rOK, b2i_ok, b2i_0, b2i_1, Nat.reduceAdd, Nat.reduceSub, Nat.reduceMul, Nat.reduceEqDiff, Nat.reduceLeDiff, Nat.reduceLT, Int.reduceAdd, Int.reduceSub, Int.reduceMul, Int.reduceNeg, Int.reduceEq, Int.reduceNe, Int.reduceLT, Int.reduceLE, Int.reduceToNat, Int.reduceTDiv, Int.reduceTMod, b2i_em, c]
    exact this
  · have hy2 := hy (by omega)
    simp (disch := first | decide | omega) only [b171, w171_0, w171_1, w171_4, w171_5, w171_6, w171_9, w171_10, w171_11, w171_12, w171_15, w171_16, w171_17, w171_18, w171_19, w171_20, w171_21, w171_22, w171_24, w171_27, w171_30, w171_31, w171_34, w171_36, w171_37, w171_38, w171_39, w171_42, w171_45, w171_48, w171_49, w171_52, w171_53, w171_54, w171_55, w171_56, w171_57, w171_58, w171_59, w171_60, w171_63, w171_66, w171_67, w171_70, w171_71, w171_72, tc97, tr97_0, tr97_1, tr97_2, tr97_6, tr97_7, tr97_8, tr97_9, tr97_10, tr97_11, tr97_12, tr97_22, tr97_23, tr97_25, tr97_26, tr97_30, tr97_31, tr97_32, tr97_33, tr97_35, tr97_36, tr97_37, tr97_38, tr97_40, tr97_41, tr97_42, tr97_43, tr97_44, tr97_45, tr97_46, tr97_47, tr97_48, tr97_49, tr97_50, tr97_51, tr97_52, tr97_53, tr97_54, tr97_55, tr97_56, tr97_57, tr97_58, tr97_59, tr97_60, tr97_61, ta98, tn98, ta99, tn99, ta100, tn100, ta101, tn101, ta102, tn102, ta103, tn103, ta104, tn104, ta105, tn105, ta106, tn106, ta107, tn107, ta108, tn108, ta109, tn109, ta110, tn110, ta111, tn111, ta112, tn112, ta113, tn113, ta114, tn114, ta115, tn115, ta116, tn116, ta117, tn117, ta118, tn118, ta119, tn119, ta120, tn120, ta121, tn121, ta122, tn122, ta123, tn123, ta124, tn124, ta125, tn125, ta126, tn126, ta127, tn127, ta128, tn128, ta129, tn129, ta130, tn130, ta131, tn131, ta132, tn132, ta133, tn133, ta134, tn134, ta135, tn135, ta136, tn136, ta137, tn137, ta138, tn138, ta139, tn139, ta140, tn140, ta141, tn141, xLoad_i, xLoad_l, xLoad_r, xInc_s, xBr_t, xBr_f, xNz_s, xGf_s, xPf_s, xPz_s, xLd_2, xLd_7, xLd_10, xLdb_3, xLdb_5, xLdb_9, xLdl_4, xLdr_6, xSt_2, xStl_4, xStb_3, xStb_5, xLen_s, xLen_10, xCpy_s, xIv_s, xMx_s, mCont_s, mCont_n, w32_s, w64_s, upC_e, upC_n, upC_u, upC_c, mEn_c, mEn_n, mcw_i, mcw_l, mcw_r, mcat_n, mcat_i, mcat_l, mcat_r, xlong_i, xlong_l, xlong_r, xlong_n, s1_at, s2_at, ↓reduceIte, reduceCtorEq, and_self, true_and, and_true, false_and, and_false, Bool.false_eq_true, ne_eq, not_true_eq_false, not_false_eq_true, or_true, true_or, or_false, false_or, or_self, Int.tmod_eq_emod_of_nonneg, Int.tdiv_eq_ediv_of_nonneg, Classical.not_not, xSw, rOK, b2i_ok, b2i_0, b2i_1, Nat.reduceAdd, Nat.reduceSub, Nat.reduceMul, Nat.reduceEqDiff, Nat.reduceLeDiff, Nat.reduceLT, Int.reduceAdd, Int.reduceSub, Int.reduceMul, Int.reduceNeg, Int.reduceEq, Int.reduceNe, Int.reduceLT, Int.reduceLE, Int.reduceToNat, Int.reduceTDiv, Int.reduceTMod, b2i_em]
    refine loopL (P := fun k lv M' => M' = upC M 98 (mU (fun i => if 80 ≤ i ∧ i < 80 + (k : Nat) then M 98 (300 + 212 * (M 98 4 - 1) + (i - 80)) else M 98 i) 4 (M 98 4 - 1)) ∧ lv 0 = some (vr 97) ∧ lv 1 = some (vi (k : Nat))) (G := fun lv M' => rn d 171 K 23 lv [] M') 212 0 (Nat.zero_le _) _ _ ⟨?_, ?_, ?_⟩ (fun k hk ih lv M' h => ?_) (fun lv M' h => ?_)
    any_goals (simp [s1_at, s2_at, mEn_c, mcw_r, mcw_i, mcw_l, xlong_i, xlong_r, xlong_l, xlong_n]; done)
    · refine congrArg (upC M 98) ?_
      have e : (fun i => if 80 ≤ i ∧ i < 80 + ((0 : Nat) : Int) then M 98 (300 + 212 * (M 98 4 - 1) + (i - 80)) else M 98 i) = M 98 := by
        funext i
        rw [if_neg (by omega)]
      rw [e]
    · obtain ⟨rfl, g0, g1⟩ := h
      have ex : (if 80 ≤ 300 + 212 * (M 98 4 - 1) + (k : Int) ∧ 300 + 212 * (M 98 4 - 1) + (k : Int) < 80 + (k : Int) then M 98 (300 + 212 * (M 98 4 - 1) + (300 + 212 * (M 98 4 - 1) + (k : Int) - 80)) else M 98 (300 + 212 * (M 98 4 - 1) + k)) = M 98 (300 + 212 * (M 98 4 - 1) + k) := by rw [if_neg (by omega)]
      rw [w171_23]
      simp (disch := first | decide | omega) only [b171, w171_0, w171_1, w171_4, w171_5, w171_6, w171_9, w171_10, w171_11, w171_12, w171_15, w171_16, w171_17, w171_18, w171_19, w171_20, w171_21, w171_22, w171_24, w171_27, w171_30, w171_31, w171_34, w171_36, w171_37, w171_38, w171_39, w171_42, w171_45, w171_48, w171_49, w171_52, w171_53, w171_54, w171_55, w171_56, w171_57, w171_58, w171_59, w171_60, w171_63, w171_66, w171_67, w171_70, w171_71, w171_72, tc97, tr97_0, tr97_1, tr97_2, tr97_6, tr97_7, tr97_8, tr97_9, tr97_10, tr97_11, tr97_12, tr97_22, tr97_23, tr97_25, tr97_26, tr97_30, tr97_31, tr97_32, tr97_33, tr97_35, tr97_36, tr97_37, tr97_38, tr97_40, tr97_41, tr97_42, tr97_43, tr97_44, tr97_45, tr97_46, tr97_47, tr97_48, tr97_49, tr97_50, tr97_51, tr97_52, tr97_53, tr97_54, tr97_55, tr97_56, tr97_57, tr97_58, tr97_59, tr97_60, tr97_61, ta98, tn98, ta99, tn99, ta100, tn100, ta101, tn101, ta102, tn102, ta103, tn103, ta104, tn104, ta105, tn105, ta106, tn106, ta107, tn107, ta108, tn108, ta109, tn109, ta110, tn110, ta111, tn111, ta112, tn112, ta113, tn113, ta114, tn114, ta115, tn115, ta116, tn116, ta117, tn117, ta118, tn118, ta119, tn119, ta120, tn120, ta121, tn121, ta122, tn122, ta123, tn123, ta124, tn124, ta125, tn125, ta126, tn126, ta127, tn127, ta128, tn128, ta129, tn129, ta130, tn130, ta131, tn131, ta132, tn132, ta133, tn133, ta134, tn134, ta135, tn135, ta136, tn136, ta137, tn137, ta138, tn138, ta139, tn139, ta140, tn140, ta141, tn141, xLoad_i, xLoad_l, xLoad_r, xInc_s, xBr_t, xBr_f, xNz_s, xGf_s, xPf_s, xPz_s, xLd_2, xLd_7, xLd_10, xLdb_3, xLdb_5, xLdb_9, xLdl_4, xLdr_6, xSt_2, xStl_4, xStb_3, xStb_5, xLen_s, xLen_10, xCpy_s, xIv_s, xMx_s, mCont_s, mCont_n, w32_s, w64_s, upC_e, upC_n, upC_u, upC_c, mEn_c, mEn_n, mcw_i, mcw_l, mcw_r, mcat_n, mcat_i, mcat_l, mcat_r, xlong_i, xlong_l, xlong_r, xlong_n, s1_at, s2_at, ↓reduceIte, reduceCtorEq, and_self, true_and, and_true, false_and, and_false, Bool.false_eq_true, ne_eq, not_true_eq_false, not_false_eq_true, or_true, true_or, or_false, false_or, or_self, Int.tmod_eq_emod_of_nonneg, Int.tdiv_eq_ediv_of_nonneg, Classical.not_not, xSw, rOK, b2i_ok, b2i_0, b2i_1, Nat.reduceAdd, Nat.reduceSub, Nat.reduceMul, Nat.reduceEqDiff, Nat.reduceLeDiff, Nat.reduceLT, Int.reduceAdd, Int.reduceSub, Int.reduceMul, Int.reduceNeg, Int.reduceEq, Int.reduceNe, Int.reduceLT, Int.reduceLE, Int.reduceToNat, Int.reduceTDiv, Int.reduceTMod, b2i_em, g0, g1, mU_e, mU_n, ex]
      refine ih _ _ ⟨?_, ?_, ?_⟩
      any_goals (simp [s1_at, s2_at, mEn_c, mcw_r, mcw_i, mcw_l, xlong_i, xlong_r, xlong_l, xlong_n, g0, g1]; done)
      refine congrArg (upC M 98) ?_
      funext i
      unfold mU
      by_cases h4' : i = 4
      · rw [if_pos h4', if_neg (by omega), if_pos h4']
      · by_cases h1 : i = 80 + (k : Int)
        · rw [if_pos h1, if_neg h4']
          show _ = (if _ then _ else _)
          rw [if_pos (by omega), h1]
          congr 1
          omega
        · rw [if_neg h1, if_neg h4', if_neg h4']
          exact ite_c (fun w => by omega) (fun w => by omega) rfl rfl
    · obtain ⟨rfl, g0, g1⟩ := h
      rw [w171_23]
      simp (disch := first | decide | omega) only [b171, w171_0, w171_1, w171_4, w171_5, w171_6, w171_9, w171_10, w171_11, w171_12, w171_15, w171_16, w171_17, w171_18, w171_19, w171_20, w171_21, w171_22, w171_24, w171_27, w171_30, w171_31, w171_34, w171_36, w171_37, w171_38, w171_39, w171_42, w171_45, w171_48, w171_49, w171_52, w171_53, w171_54, w171_55, w171_56, w171_57, w171_58, w171_59, w171_60, w171_63, w171_66, w171_67, w171_70, w171_71, w171_72, tc97, tr97_0, tr97_1, tr97_2, tr97_6, tr97_7, tr97_8, tr97_9, tr97_10, tr97_11, tr97_12, tr97_22, tr97_23, tr97_25, tr97_26, tr97_30, tr97_31, tr97_32, tr97_33, tr97_35, tr97_36, tr97_37, tr97_38, tr97_40, tr97_41, tr97_42, tr97_43, tr97_44, tr97_45, tr97_46, tr97_47, tr97_48, tr97_49, tr97_50, tr97_51, tr97_52, tr97_53, tr97_54, tr97_55, tr97_56, tr97_57, tr97_58, tr97_59, tr97_60, tr97_61, ta98, tn98, ta99, tn99, ta100, tn100, ta101, tn101, ta102, tn102, ta103, tn103, ta104, tn104, ta105, tn105, ta106, tn106, ta107, tn107, ta108, tn108, ta109, tn109, ta110, tn110, ta111, tn111, ta112, tn112, ta113, tn113, ta114, tn114, ta115, tn115, ta116, tn116, ta117, tn117, ta118, tn118, ta119, tn119, ta120, tn120, ta121, tn121, ta122, tn122, ta123, tn123, ta124, tn124, ta125, tn125, ta126, tn126, ta127, tn127, ta128, tn128, ta129, tn129, ta130, tn130, ta131, tn131, ta132, tn132, ta133, tn133, ta134, tn134, ta135, tn135, ta136, tn136, ta137, tn137, ta138, tn138, ta139, tn139, ta140, tn140, ta141, tn141, xLoad_i, xLoad_l, xLoad_r, xInc_s, xBr_t, xBr_f, xNz_s, xGf_s, xPf_s, xPz_s, xLd_2, xLd_7, xLd_10, xLdb_3, xLdb_5, xLdb_9, xLdl_4, xLdr_6, xSt_2, xStl_4, xStb_3, xStb_5, xLen_s, xLen_10, xCpy_s, xIv_s, xMx_s, mCont_s, mCont_n, w32_s, w64_s, upC_e, upC_n, upC_u, upC_c, mEn_c, mEn_n, mcw_i, mcw_l, mcw_r, mcat_n, mcat_i, mcat_l, mcat_r, xlong_i, xlong_l, xlong_r, xlong_n, s1_at, s2_at, ↓reduceIte, reduceCtorEq, and_self, true_and, and_true, false_and, and_false, Bool.false_eq_true, ne_eq, not_true_eq_false, not_false_eq_true, or_true, true_or, or_false, false_or, or_self, Int.tmod_eq_emod_of_nonneg, Int.tdiv_eq_ediv_of_nonneg, Classical.not_not, xSw, rOK, b2i_ok, b2i_0, b2i_1, Nat.reduceAdd, Nat.reduceSub, Nat.reduceMul, Nat.reduceEqDiff, Nat.reduceLeDiff, Nat.reduceLT, Int.reduceAdd, Int.reduceSub, Int.reduceMul, Int.reduceNeg, Int.reduceEq, Int.reduceNe, Int.reduceLT, Int.reduceLE, Int.reduceToNat, Int.reduceTDiv, Int.reduceTMod, b2i_em, g0, g1, mU_e]
      exact hy2
theorem c_takeBack {d : Nat} {M : mM} {K : mQ} (h1 : 0 ≤ M 2 10 ∧ M 2 10 < 30) (h2 : 1 ≤ M 2 11 ∧ M 2 11 ≤ 30) (hB : 0 ≤ M 2 0 ∧ M 2 0 ≤ 6) (hK : ∀ r', (∀ i, 6 ≤ i → i < 92 → r' i = M 10 ((M 2 10 + (M 2 11 - 1)) % 30 * 92 + i)) → (∀ b : Nat, b < 6 → r' b = if (b : Int) < M 2 0 ∧ M 10 ((M 2 10 + (M 2 11 - 1)) % 30 * 92 + b) = 0 then M 3 b else M 10 ((M 2 10 + (M 2 11 - 1)) % 30 * 92 + b)) → K none (upC (upC M 2 (mU (M 2) 11 (M 2 11 - 1))) 9 r')) : mCall (d + 1) 101 [vr 2] M K := by
  have hs0 : 0 ≤ (M 2 10 + (M 2 11 - 1)) % 30 ∧ (M 2 10 + (M 2 11 - 1)) % 30 < 30 := by omega
  simp (disch := first | decide | omega) only [b101, w101_0, w101_1, w101_2, w101_5, w101_6, w101_7, w101_10, w101_11, w101_14, w101_15, w101_18, w101_19, w101_21, w101_22, w101_23, w101_24, w101_27, w101_28, w101_30, w101_31, w101_32, w101_35, w101_36, w101_38, w101_41, w101_42, w101_44, w101_45, w101_48, w101_51, w101_52, w101_55, w101_56, w101_57, w101_58, w101_59, w101_62, w101_63, w101_66, w101_67, w101_68, w101_69, w101_70, w101_73, w101_74, w101_75, w101_76, w101_79, w101_82, tc2, tr2_2, tr2_3, tr2_4, tr2_5, tr2_6, tr2_7, tr2_8, tr2_9, tr2_12, tr2_13, tr2_15, ta3, tn3, ta4, tn4, ta5, tn5, ta6, tn6, ta7, tn7, ta8, tn8, ta9, tn9, ta10, tn10, ta11, tn11, ta12, tn12, ta13, tn13, xLoad_i, xLoad_l, xLoad_r, xInc_s, xBr_t, xBr_f, xNz_s, xGf_s, xPf_s, xPz_s, xLd_2, xLd_7, xLd_10, xLdb_3, xLdb_5, xLdb_9, xLdl_4, xLdr_6, xSt_2, xStl_4, xStb_3, xStb_5, xLen_s, xLen_10, xCpy_s, xIv_s, xMx_s, mCont_s, mCont_n, w32_s, w64_s, upC_e, upC_n, upC_u, upC_c, mEn_c, mEn_n, mcw_i, mcw_l, mcw_r, mcat_n, mcat_i, mcat_l, mcat_r, xlong_i, xlong_l, xlong_r, xlong_n, s1_at, s2_at, ↓reduceIte, reduceCtorEq, and_self, true_and, and_true, false_and, and_false, Bool.false_eq_true, ne_eq, not_true_eq_false, not_false_eq_true, or_true, true_or, or_false, false_or, or_self, Int.tmod_eq_emod_of_nonneg, Int.tdiv_eq_ediv_of_nonneg, Classical.not_not, xSw, rOK, b2i_ok, b2i_0, b2i_1, Nat.reduceAdd, Nat.reduceSub, Nat.reduceMul, Nat.reduceEqDiff, Nat.reduceLeDiff, Nat.reduceLT, Int.reduceAdd, Int.reduceSub, Int.reduceMul, Int.reduceNeg, Int.reduceEq, Int.reduceNe, Int.reduceLT, Int.reduceLE, Int.reduceToNat, Int.reduceTDiv, Int.reduceTMod, b2i_em, mU_e, mU_n]
  generalize hs : (M 2 10 + (M 2 11 - 1)) % 30 = s at *
  refine loopL (P := fun k lv M' => (∃ r', M' = upC (upC M 2 (mU (M 2) 11 (M 2 11 - 1))) 9 r' ∧ (∀ i, 6 ≤ i → i < 92 → r' i = M 10 (s * 92 + i)) ∧ (∀ b : Nat, b < 6 → r' b = if (b : Int) < k ∧ M 10 (s * 92 + b) = 0 then M 3 b else M 10 (s * 92 + b))) ∧ lv 0 = some (vr 2) ∧ lv 1 = some (vi s) ∧ lv 2 = some (vi (k : Nat))) (G := fun lv M' => rn d 101 K 43 lv [] M') (M 2 0).toNat 0 (Nat.zero_le _) _ _ ⟨⟨_, rfl, fun i x y => ?_, fun b hb => ?_⟩, ?_, ?_, ?_⟩ (fun k hk ih lv M' h => ?_) (fun lv M' h => ?_)
  any_goals (simp [s1_at, s2_at, mEn_c, mcw_r, mcw_i, mcw_l, xlong_i, xlong_r, xlong_l, xlong_n]; done)
  · unfold mCpy
    rw [if_pos (by omega)]
    congr 1
    omega
  · rw [if_neg (by omega)]
    unfold mCpy
    rw [if_pos (by omega)]
    congr 1
    (try omega)
  · obtain ⟨⟨r', rfl, hr1, hr2⟩, g0, g1, g2⟩ := h
    have q := hr2 k (by omega)
    rw [if_neg (by omega)] at q
    rw [w101_43]
    by_cases e : M 10 (s * 92 + k) = 0
    · simp (disch := first | decide | omega) only [b101, w101_0, w101_1, w101_2, w101_5, w101_6, w101_7, w101_10, w101_11, w101_14, w101_15, w101_18, w101_19, w101_21, w101_22, w101_23, w101_24, w101_27, w101_28, w101_30, w101_31, w101_32, w101_35, w101_36, w101_38, w101_41, w101_42, w101_44, w101_45, w101_48, w101_51, w101_52, w101_55, w101_56, w101_57, w101_58, w101_59, w101_62, w101_63, w101_66, w101_67, w101_68, w101_69, w101_70, w101_73, w101_74, w101_75, w101_76, w101_79, w101_82, tc2, tr2_2, tr2_3, tr2_4, tr2_5, tr2_6, tr2_7, tr2_8, tr2_9, tr2_12, tr2_13, tr2_15, ta3, tn3, ta4, tn4, ta5, tn5, ta6, tn6, ta7, tn7, ta8, tn8, ta9, tn9, ta10, tn10, ta11, tn11, ta12, tn12, ta13, tn13, xLoad_i, xLoad_l, xLoad_r, xInc_s, xBr_t, xBr_f, xNz_s, xGf_s, xPf_s, xPz_s, xLd_2, xLd_7, xLd_10, xLdb_3, xLdb_5, xLdb_9, xLdl_4, xLdr_6, xSt_2, xStl_4, xStb_3, xStb_5, xLen_s, xLen_10, xCpy_s, xIv_s, xMx_s, mCont_s, mCont_n, w32_s, w64_s, upC_e, upC_n, upC_u, upC_c, mEn_c, mEn_n, mcw_i, mcw_l, mcw_r, mcat_n, mcat_i, mcat_l, mcat_r, xlong_i, xlong_l, xlong_r, xlong_n, s1_at, s2_at, ↓reduceIte, reduceCtorEq, and_self, true_and, and_true, false_and, and_false, Bool.false_eq_true, ne_eq, not_true_eq_false, not_false_eq_true, or_true, true_or, or_false, false_or, or_self, Int.tmod_eq_emod_of_nonneg, Int.tdiv_eq_ediv_of_nonneg, Classical.not_not, xSw, rOK, b2i_ok, b2i_0, b2i_1, Nat.reduceAdd, Nat.reduceSub, Nat.reduceMul, Nat.reduceEqDiff, Nat.reduceLeDiff, Nat.reduceLT, Int.reduceAdd, Int.reduceSub, Int.reduceMul, Int.reduceNeg, Int.reduceEq, Int.reduceNe, Int.reduceLT, Int.reduceLE, Int.reduceToNat, Int.reduceTDiv, Int.reduceTMod, b2i_em, g0, g1, g2, mU_e, mU_n, Int.zero_add, q, e]
      refine ih _ _ ⟨⟨_, rfl, fun i x y => by rw [mU_n (by omega)]; exact hr1 i x y, fun b hb => ?_⟩, ?_, ?_, ?_⟩
      any_goals (simp [s1_at, s2_at, mEn_c, mcw_r, mcw_i, mcw_l, xlong_i, xlong_r, xlong_l, xlong_n, g0, g1, g2]; done)
      by_cases z : b = k
      · subst z
        rw [mU_e, if_pos ⟨by omega, e⟩]
      · rw [mU_n (by omega), hr2 b hb]
        exact ite_c (fun w => ⟨by omega, w.2⟩) (fun w => ⟨by omega, w.2⟩) rfl rfl
    · simp (disch := first | decide | omega) only [b101, w101_0, w101_1, w101_2, w101_5, w101_6, w101_7, w101_10, w101_11, w101_14, w101_15, w101_18, w101_19, w101_21, w101_22, w101_23, w101_24, w101_27, w101_28, w101_30, w101_31, w101_32, w101_35, w101_36, w101_38, w101_41, w101_42, w101_44, w101_45, w101_48, w101_51, w101_52, w101_55, w101_56, w101_57, w101_58, w101_59, w101_62, w101_63, w101_66, w101_67, w101_68, w101_69, w101_70, w101_73, w101_74, w101_75, w101_76, w101_79, w101_82, tc2, tr2_2, tr2_3, tr2_4, tr2_5, tr2_6, tr2_7, tr2_8, tr2_9, tr2_12, tr2_13, tr2_15, ta3, tn3, ta4, tn4, ta5, tn5, ta6, tn6, ta7, tn7, ta8, tn8, ta9, tn9, ta10, tn10, ta11, tn11, ta12, tn12, ta13, tn13, xLoad_i, xLoad_l, xLoad_r, xInc_s, xBr_t, xBr_f, xNz_s, xGf_s, xPf_s, xPz_s, xLd_2, xLd_7, xLd_10, xLdb_3, xLdb_5, xLdb_9, xLdl_4, xLdr_6, xSt_2, xStl_4, xStb_3, xStb_5, xLen_s, xLen_10, xCpy_s, xIv_s, xMx_s, mCont_s, mCont_n, w32_s, w64_s, upC_e, upC_n, upC_u, upC_c, mEn_c, mEn_n, mcw_i, mcw_l, mcw_r, mcat_n, mcat_i, mcat_l, mcat_r, xlong_i, xlong_l, xlong_r, xlong_n, s1_at, s2_at, ↓reduceIte, reduceCtorEq, and_self, true_and, and_true, false_and, and_false, Bool.false_eq_true, ne_eq, not_true_eq_false, not_false_eq_true, or_true, true_or, or_false, false_or, or_self, Int.tmod_eq_emod_of_nonneg, Int.tdiv_eq_ediv_of_nonneg, Classical.not_not, xSw, rOK, b2i_ok, b2i_0, b2i_1, Nat.reduceAdd, Nat.reduceSub, Nat.reduceMul, Nat.reduceEqDiff, Nat.reduceLeDiff, Nat.reduceLT, Int.reduceAdd, Int.reduceSub, Int.reduceMul, Int.reduceNeg, Int.reduceEq, Int.reduceNe, Int.reduceLT, Int.reduceLE, Int.reduceToNat, Int.reduceTDiv, Int.reduceTMod, b2i_em, g0, g1, g2, mU_e, mU_n, Int.zero_add, q, e]
      refine ih _ _ ⟨⟨r', rfl, hr1, fun b hb => ?_⟩, ?_, ?_, ?_⟩
      any_goals (simp [s1_at, s2_at, mEn_c, mcw_r, mcw_i, mcw_l, xlong_i, xlong_r, xlong_l, xlong_n, g0, g1, g2]; done)
      rw [hr2 b hb]
      by_cases z : b = k
      · subst z
        rw [if_neg (by omega), if_neg (fun w => e w.2)]
      · exact ite_c (fun w => ⟨by omega, w.2⟩) (fun w => ⟨by omega, w.2⟩) rfl rfl
  · obtain ⟨⟨r', rfl, hr1, hr2⟩, g0, g1, g2⟩ := h
    rw [w101_43]
    simp (disch := first | decide | omega) only [b101, w101_0, w101_1, w101_2, w101_5, w101_6, w101_7, w101_10, w101_11, w101_14, w101_15, w101_18, w101_19, w101_21, w101_22, w101_23, w101_24, w101_27, w101_28, w101_30, w101_31, w101_32, w101_35, w101_36, w101_38, w101_41, w101_42, w101_44, w101_45, w101_48, w101_51, w101_52, w101_55, w101_56, w101_57, w101_58, w101_59, w101_62, w101_63, w101_66, w101_67, w101_68, w101_69, w101_70, w101_73, w101_74, w101_75, w101_76, w101_79, w101_82, tc2, tr2_2, tr2_3, tr2_4, tr2_5, tr2_6, tr2_7, tr2_8, tr2_9, tr2_12, tr2_13, tr2_15, ta3, tn3, ta4, tn4, ta5, tn5, ta6, tn6, ta7, tn7, ta8, tn8, ta9, tn9, ta10, tn10, ta11, tn11, ta12, tn12, ta13, tn13, xLoad_i, xLoad_l, xLoad_r, xInc_s, xBr_t, xBr_f, xNz_s, xGf_s, xPf_s, xPz_s, xLd_2, xLd_7, xLd_10, xLdb_3, xLdb_5, xLdb_9, xLdl_4, xLdr_6, xSt_2, xStl_4, xStb_3, xStb_5, xLen_s, xLen_10, xCpy_s, xIv_s, xMx_s, mCont_s, mCont_n, w32_s, w64_s, upC_e, upC_n, upC_u, upC_c, mEn_c, mEn_n, mcw_i, mcw_l, mcw_r, mcat_n, mcat_i, mcat_l, mcat_r, xlong_i, xlong_l, xlong_r, xlong_n, s1_at, s2_at, ↓reduceIte, reduceCtorEq, and_self, true_and, and_true, false_and, and_false, Bool.false_eq_true, ne_eq, not_true_eq_false, not_false_eq_true, or_true, true_or, or_false, false_or, or_self, Int.tmod_eq_emod_of_nonneg, Int.tdiv_eq_ediv_of_nonneg, Classical.not_not, xSw, rOK, b2i_ok, b2i_0, b2i_1, Nat.reduceAdd, Nat.reduceSub, Nat.reduceMul, Nat.reduceEqDiff, Nat.reduceLeDiff, Nat.reduceLT, Int.reduceAdd, Int.reduceSub, Int.reduceMul, Int.reduceNeg, Int.reduceEq, Int.reduceNe, Int.reduceLT, Int.reduceLE, Int.reduceToNat, Int.reduceTDiv, Int.reduceTMod, b2i_em, g0, g1, g2, mU_e, mU_n]
    refine hK r' hr1 (fun b hb => ?_)
    rw [hr2 b hb]
    exact ite_c (fun w => ⟨by omega, w.2⟩) (fun w => ⟨by omega, w.2⟩) rfl rfl
theorem CV_undo {M M' : mM} {A : Int → Int} {r' : Int → Int} (h : CV 2 M A) (h4 : 0 < A 4) (hM : M' = upC (upC M 2 (mU (M 2) 11 (M 2 11 - 1))) 9 r') (hr1 : ∀ i, 6 ≤ i → i < 92 → r' i = M 10 ((M 2 10 + (M 2 11 - 1)) % 30 * 92 + i)) (hr2 : ∀ b : Nat, b < 6 → r' b = if (b : Int) < M 2 0 ∧ M 10 ((M 2 10 + (M 2 11 - 1)) % 30 * 92 + b) = 0 then M 3 b else M 10 ((M 2 10 + (M 2 11 - 1)) % 30 * 92 + b)) : CV 2 M' (unA A) := by
  obtain ⟨q1, q2, q3, q4, q5, q6⟩ := h
  have n30 := q5.2.1
  obtain ⟨n, hn⟩ : ∃ n : Nat, A 4 = n + 1 := ⟨(A 4 - 1).toNat, by omega⟩
  obtain ⟨u, v⟩ := q5.2.2.2 n (by omega)
  have e11 : M 2 11 = A 4 := q5.1
  have eN : (M 2 10 + (M 2 11 - 1)) % 30 = (M 2 10 + n) % 30 := by rw [e11, hn]; congr 1; omega
  rw [eN] at hr1 hr2
  have lo : ∀ i, i < 80 → i ≠ 4 → unA A i = A i := fun i hi h => by
    unfold unA
    rw [mU_n h]
    exact if_neg (by omega)
  have hi : ∀ i, 292 ≤ i → unA A i = A i := fun i hi => by
    unfold unA
    rw [mU_n (by omega)]
    exact if_neg (by omega)
  have mid : ∀ i, 80 ≤ i → i < 292 → unA A i = A (300 + 212 * n + (i - 80)) := fun i h1 h2 => by
    unfold unA
    rw [mU_n (by omega)]
    show (if _ then _ else _) = _
    rw [if_pos ⟨h1, h2⟩, hn]
    congr 1
    omega
  have u4 : unA A 4 = n := by
    unfold unA
    rw [mU_e, hn]
    omega
  have hv : ∀ i, 0 ≤ i → i < 292 → i ≠ 4 → vw A (300 + 212 * n) i = unA A i := by
    intro i h0 h1 h2
    unfold vw
    by_cases g : i < 80
    · rw [if_pos g, lo i g h2]
    · rw [if_neg g, mid i (by omega) h1]
  have m2 : M' 2 = mU (M 2) 11 (M 2 11 - 1) := by rw [hM]; simp (disch := first | decide | omega) only [upC_e, upC_n, mU_e, mU_n]
  have m9 : M' 9 = r' := by rw [hM]; simp (disch := first | decide | omega) only [upC_e, upC_n, mU_e, mU_n]
  have mo : ∀ k, k ≠ 2 → k ≠ 9 → M' k = M k := fun k h1 h2 => by rw [hM, upC_n h2, upC_n h1]
  have hvr := fun i h0 h1 h2 => (hv i h0 h1 h2).symm
  obtain ⟨u1, u2, u3, u5, u6, u7⟩ := u
  have v0 : vw A (300 + 212 * n) 0 = A 0 := by unfold vw; rw [if_pos (by decide)]
  have v1 : vw A (300 + 212 * n) 1 = A 1 := by unfold vw; rw [if_pos (by decide)]
  generalize hV : vw A (300 + 212 * n) = V at *
  refine ⟨⟨?_, ?_, fun b hb => ?_, fun l hl => ?_⟩, ⟨?_, ?_, ?_⟩, ?_, VW_g hv v, ?_, ?_⟩
  · rw [m2, mU_n (by decide), lo 0 (by decide) (by decide)]; exact q1.1
  · rw [m2, mU_n (by decide), lo 1 (by decide) (by decide)]; exact q1.2.1
  · rw [mo (2 + 2) (by decide) (by decide), mo (2 + 3) (by decide) (by decide), lo (10 + b) (by omega) (by omega), lo (16 + b) (by omega) (by omega)]; exact q1.2.2.1 b hb
  · rw [mo (2 + 4) (by decide) (by decide), mo (2 + 5) (by decide) (by decide), mo (2 + 6) (by decide) (by decide), lo (22 + 3 * l) (by omega) (by omega), lo (23 + 3 * l) (by omega) (by omega), lo (24 + 3 * l) (by omega) (by omega)]; exact q1.2.2.2 l hl
  · rw [show 2 + 7 = 9 from rfl, m9]
    refine ⟨fun b hb => ?_, fun l hl => ?_, ?_, ?_, ?_⟩
    · have t := u1 b hb
      rw [v0] at t
      rw [hvr (83 + b) (by omega) (by omega) (by omega), hvr (89 + b) (by omega) (by omega) (by omega), hvr (95 + b) (by omega) (by omega) (by omega), hvr (101 + b) (by omega) (by omega) (by omega), hr2 b hb, hr1 (6 + b) (by omega) (by omega), hr1 (12 + b) (by omega) (by omega), hr1 (18 + b) (by omega) (by omega)]
      refine ⟨?_, t.2.2⟩
      have q0 : M 2 0 = A 0 := q1.1
      rw [q0]
      by_cases g : (b : Int) < A 0
      · have t1 := t.1 g
        rw [← t1]
        exact ite_c (fun w => w.2) (fun w => ⟨g, w⟩) rfl rfl
      · rw [if_neg (fun w => g w.1)]
        have t2 := t.2.1 (by omega)
        have w := (v.1.2.2.2.1 b hb).2.2.2.1 (by rw [v0]; omega)
        rw [w.1]
        exact t2
    · rw [lo 1 (by decide) (by decide), hvr (107 + l) (by omega) (by omega) (by omega), hvr (119 + l) (by omega) (by omega) (by omega), hr1 (24 + l) (by omega) (by omega), hr1 (36 + l) (by omega) (by omega), ← v1]
      exact u2 l hl
    · rw [hr1 48 (by decide) (by decide), hvr 80 (by decide) (by decide) (by decide)]; exact u3
    · rw [hr1 50 (by decide) (by decide), hvr 82 (by decide) (by decide) (by decide)]; exact u6
    · have t := u7.1
      have w := v.2.2.1
      rw [hr1 51 (by decide) (by decide)]
      replace t : M 10 ((M 2 10 + n) % 30 * 92 + 51) = V 131 := t
      omega
  · rw [show 2 + 7 = 9 from rfl, m9, hr1 49 (by decide) (by decide), hvr 81 (by decide) (by decide) (by decide)]; exact u5
  · rw [show 2 + 7 = 9 from rfl, m9]
    exact RF_h v.2.2.1 (fun i h1 h2 => (hr1 i (by omega) h2).symm) (fun i h1 h2 => hv i (by omega) h2 (by omega)) u7
  · unfold WS at q3 ⊢
    rw [lo 0 (by decide) (by decide), lo 1 (by decide) (by decide)]
    refine ⟨q3.1, q3.2.1, fun b hb => ?_, fun l hl => ?_, fun p q hp hq => ?_⟩
    · rw [lo (10 + b) (by omega) (by omega), lo (16 + b) (by omega) (by omega)]; exact q3.2.2.1 b hb
    · rw [lo (22 + 3 * l) (by omega) (by omega), lo (23 + 3 * l) (by omega) (by omega), lo (24 + 3 * l) (by omega) (by omega)]; exact q3.2.2.2.1 l hl
    · rw [lo (16 + p) (by omega) (by omega), lo (16 + q) (by omega) (by omega)]; exact q3.2.2.2.2 p q hp hq
  · refine ⟨by rw [m2, mU_e, u4, e11, hn]; omega, by rw [u4]; omega, by rw [m2, mU_n (by decide)]; exact q5.2.2.1, fun k hk => ?_⟩
    rw [u4] at hk
    obtain ⟨x, y⟩ := q5.2.2.2 k (by omega)
    have hvk : ∀ i, 0 ≤ i → i < 292 → i ≠ 4 → vw A (300 + 212 * k) i = vw (unA A) (300 + 212 * k) i := by
      intro i h0 h1 h2
      unfold vw
      by_cases g : i < 80
      · rw [if_pos g, if_pos g, lo i g h2]
      · rw [if_neg g, if_neg g, hi _ (by omega)]
    rw [m2, mU_n (by decide), mo (2 + 8) (by decide) (by decide), mo (2 + 1) (by decide) (by decide)]
    exact ⟨SW_g y.2.2.1 (fun _ _ _ => rfl) (fun _ _ _ => rfl) hvk x, VW_g hvk y⟩
  · unfold MI at q6 ⊢
    rw [m2, mU_n (by decide), mU_n (by decide), mU_n (by decide), mU_n (by decide), mo (2 + 1) (by decide) (by decide), mo (2 + 9) (by decide) (by decide), mo (2 + 10) (by decide) (by decide), mo (2 + 11) (by decide) (by decide), lo 0 (by decide) (by decide), lo 5 (by decide) (by decide), lo 6 (by decide) (by decide), lo 2 (by decide) (by decide), lo 3 (by decide) (by decide)]
    obtain ⟨z1, z2, z3, z4, z5, z6, z7⟩ := q6
    refine ⟨z1, z2, z3, z4, z5, fun k hk => ?_, fun k hk => ?_⟩
    · rw [lo (58 + 2 * k) (by omega) (by omega), lo (59 + 2 * k) (by omega) (by omega)]; exact z6 k hk
    · rw [lo (70 + k) (by omega) (by omega)]; exact z7 k hk
theorem op_undo : OPJ 136 171 [] := by
  intro S d M lw h K hK
  obtain ⟨b0, b1, b4, -⟩ := J_b h
  have e11 : M 2 11 = M 98 4 := h.1.2.2.2.2.1.1
  have e0 : M 2 0 = M 98 0 := h.1.1.1
  have e10 := h.1.2.2.2.2.1.2.2.1
  by_cases c : M 98 4 = 0
  · simp (disch := first | decide | omega) only [b136, w136_0, w136_1, w136_4, w136_7, w136_10, w136_11, w136_12, w136_13, w136_16, w136_19, w136_20, w136_23, w136_26, tc1, tr1_0, tr1_1, tr1_2, tr1_3, tr1_4, tr1_5, tr1_6, tr1_7, tr1_8, tr1_9, tr1_10, tr1_11, tc2, tr2_2, tr2_3, tr2_4, tr2_5, tr2_6, tr2_7, tr2_8, tr2_9, tr2_12, tr2_13, tr2_15, ta3, tn3, ta4, tn4, ta5, tn5, ta6, tn6, ta7, tn7, ta8, tn8, ta9, tn9, ta10, tn10, ta11, tn11, ta12, tn12, ta13, tn13, xLoad_i, xLoad_l, xLoad_r, xInc_s, xBr_t, xBr_f, xNz_s, xGf_s, xPf_s, xPz_s, xLd_2, xLd_7, xLd_10, xLdb_3, xLdb_5, xLdb_9, xLdl_4, xLdr_6, xSt_2, xStl_4, xStb_3, xStb_5, xLen_s, xLen_10, xCpy_s, xIv_s, xMx_s, mCont_s, mCont_n, w32_s, w64_s, upC_e, upC_n, upC_u, upC_c, mEn_c, mEn_n, mcw_i, mcw_l, mcw_r, mcat_n, mcat_i, mcat_l, mcat_r, xlong_i, xlong_l, xlong_r, xlong_n, s1_at, s2_at, ↓reduceIte, reduceCtorEq, and_self, true_and, and_true, false_and, and_false, Bool.false_eq_true, ne_eq, not_true_eq_false, not_false_eq_true, or_true, true_or, or_false, false_or, or_self, Int.tmod_eq_emod_of_nonneg, Int.tdiv_eq_ediv_of_nonneg, Classical.not_not, xSw, rOK, b2i_ok, b2i_0, b2i_1, Nat.reduceAdd, Nat.reduceSub, Nat.reduceMul, Nat.reduceEqDiff, Nat.reduceLeDiff, Nat.reduceLT, Int.reduceAdd, Int.reduceSub, Int.reduceMul, Int.reduceNeg, Int.reduceEq, Int.reduceNe, Int.reduceLT, Int.reduceLE, Int.reduceToNat, Int.reduceTDiv, Int.reduceTMod, b2i_em, e11, c]
    exact hK _ _ (fun K2 hK2 => r_undo b4 (fun w => by omega) (fun _ => hK2 _ lw h))
  · have hcv := fun r' hr1 hr2 => CV_undo (M := M) (A := M 98) (r' := r') h.1 (by omega) rfl hr1 hr2
    simp (disch := first | decide | omega) only [b136, w136_0, w136_1, w136_4, w136_7, w136_10, w136_11, w136_12, w136_13, w136_16, w136_19, w136_20, w136_23, w136_26, tc1, tr1_0, tr1_1, tr1_2, tr1_3, tr1_4, tr1_5, tr1_6, tr1_7, tr1_8, tr1_9, tr1_10, tr1_11, tc2, tr2_2, tr2_3, tr2_4, tr2_5, tr2_6, tr2_7, tr2_8, tr2_9, tr2_12, tr2_13, tr2_15, ta3, tn3, ta4, tn4, ta5, tn5, ta6, tn6, ta7, tn7, ta8, tn8, ta9, tn9, ta10, tn10, ta11, tn11, ta12, tn12, ta13, tn13, xLoad_i, xLoad_l, xLoad_r, xInc_s, xBr_t, xBr_f, xNz_s, xGf_s, xPf_s, xPz_s, xLd_2, xLd_7, xLd_10, xLdb_3, xLdb_5, xLdb_9, xLdl_4, xLdr_6, xSt_2, xStl_4, xStb_3, xStb_5, xLen_s, xLen_10, xCpy_s, xIv_s, xMx_s, mCont_s, mCont_n, w32_s, w64_s, upC_e, upC_n, upC_u, upC_c, mEn_c, mEn_n, mcw_i, mcw_l, mcw_r, mcat_n, mcat_i, mcat_l, mcat_r, xlong_i, xlong_l, xlong_r, xlong_n, s1_at, s2_at, ↓reduceIte, reduceCtorEq, and_self, true_and, and_true, false_and, and_false, Bool.false_eq_true, ne_eq, not_true_eq_false, not_false_eq_true, or_true, true_or, or_false, false_or, or_self, Int.tmod_eq_emod_of_nonneg, Int.tdiv_eq_ediv_of_nonneg, Classical.not_not, xSw, rOK, b2i_ok, b2i_0, b2i_1, Nat.reduceAdd, Nat.reduceSub, Nat.reduceMul, Nat.reduceEqDiff, Nat.reduceLeDiff, Nat.reduceLT, Int.reduceAdd, Int.reduceSub, Int.reduceMul, Int.reduceNeg, Int.reduceEq, Int.reduceNe, Int.reduceLT, Int.reduceLE, Int.reduceToNat, Int.reduceTDiv, Int.reduceTMod, b2i_em, e11]
    refine c_takeBack e10 (by omega) (by omega) (fun r' hr1 hr2 => ?_)
    have hc := hcv r' hr1 hr2
    generalize hM1 : upC (upC M 2 (mU (M 2) 11 (M 2 11 - 1))) 9 r' = M1 at hc ⊢
    have f1 : fr [2, 9] M M1 := by rw [← hM1]; (repeat (first | exact fr_refl | assumption | refine fr_up (by decide) ?_))
    have m98 : M1 98 = M 98 := f1 98 (by decide)
    have m11 : M1 2 11 = M 98 4 - 1 := by rw [← hM1]; simp (disch := first | decide | omega) only [upC_e, upC_n, mU_e, mU_n, e11]
    simp (disch := first | decide | omega) only [b136, w136_0, w136_1, w136_4, w136_7, w136_10, w136_11, w136_12, w136_13, w136_16, w136_19, w136_20, w136_23, w136_26, tc1, tr1_0, tr1_1, tr1_2, tr1_3, tr1_4, tr1_5, tr1_6, tr1_7, tr1_8, tr1_9, tr1_10, tr1_11, tc2, tr2_2, tr2_3, tr2_4, tr2_5, tr2_6, tr2_7, tr2_8, tr2_9, tr2_12, tr2_13, tr2_15, ta3, tn3, ta4, tn4, ta5, tn5, ta6, tn6, ta7, tn7, ta8, tn8, ta9, tn9, ta10, tn10, ta11, tn11, ta12, tn12, ta13, tn13, xLoad_i, xLoad_l, xLoad_r, xInc_s, xBr_t, xBr_f, xNz_s, xGf_s, xPf_s, xPz_s, xLd_2, xLd_7, xLd_10, xLdb_3, xLdb_5, xLdb_9, xLdl_4, xLdr_6, xSt_2, xStl_4, xStb_3, xStb_5, xLen_s, xLen_10, xCpy_s, xIv_s, xMx_s, mCont_s, mCont_n, w32_s, w64_s, upC_e, upC_n, upC_u, upC_c, mEn_c, mEn_n, mcw_i, mcw_l, mcw_r, mcat_n, mcat_i, mcat_l, mcat_r, xlong_i, xlong_l, xlong_r, xlong_n, s1_at, s2_at, ↓reduceIte, reduceCtorEq, and_self, true_and, and_true, false_and, and_false, Bool.false_eq_true, ne_eq, not_true_eq_false, not_false_eq_true, or_true, true_or, or_false, false_or, or_self, Int.tmod_eq_emod_of_nonneg, Int.tdiv_eq_ediv_of_nonneg, Classical.not_not, xSw, rOK, b2i_ok, b2i_0, b2i_1, Nat.reduceAdd, Nat.reduceSub, Nat.reduceMul, Nat.reduceEqDiff, Nat.reduceLeDiff, Nat.reduceLT, Int.reduceAdd, Int.reduceSub, Int.reduceMul, Int.reduceNeg, Int.reduceEq, Int.reduceNe, Int.reduceLT, Int.reduceLE, Int.reduceToNat, Int.reduceTDiv, Int.reduceTMod, b2i_em, m11]
    refine hK _ _ (fun K2 hK2 => r_undo (by rw [m98]; exact b4) (fun _ => ?_) (fun w => absurd w (by rw [m98]; exact c)))
    rw [m98]
    refine hK2 _ lw (J_step h (fr_mono f1 (by decide)) (by rw [upC_e]; exact hc) (by rw [f1 63 (by decide)]; exact h.2.2.2.2.2.1) (fr_in (k := 98) (by decide)) (fun i _ => by rw [upC_n (by decide)]) ?_)
    rw [upC_e]
    unfold unA
    rw [mU_n (by decide)]
    exact if_neg (by omega)
