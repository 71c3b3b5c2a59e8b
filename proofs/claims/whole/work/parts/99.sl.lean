/-! text: the class's next token -/
set_option maxHeartbeats 1000000 in
theorem c_nextWord {d n a q : Nat} {M : mM} {K : mQ} {f : Int → Int} {k : Int} (hT : TC M f n) (hk : KC M) (h2 : M 59 2 = a) (h3 : M 59 3 = a) (haq : a < q ∧ q ≤ n) (hl : ∀ j : Nat, a ≤ j → j < q → isLt (f j)) (hq : q < n → ¬ isLt (f q)) (hw : TKw f a q k) (hR : ∀ M', f59 M M' → M' 59 2 = q → M' 59 3 = a → K (some (vi k)) M') : mCall (d + 6) 83 [vr 59] M K := by
  have n3 := hT.2.1
  simp (disch := first | decide | omega) only [b83, w83_1, w83_4, w83_5, w83_8, w83_11, w83_12, w83_13, w83_16, w83_19, w83_22, w83_23, w83_24, w83_27, w83_28, w83_29, w83_32, w83_35, w83_36, w83_39, w83_40, w83_43, w83_44, w83_46, w83_49, w83_51, w83_52, w83_53, w83_55, w83_57, w83_60, w83_61, w83_62, w83_65, w83_68, w83_69, w83_70, w83_73, w83_76, w83_78, tc59, tr59_0, ta60, tn60, xLoad_i, xLoad_l, xLoad_r, xInc_s, xBr_t, xBr_f, xNz_s, xGf_s, xPf_s, xPz_s, xLd_2, xLd_7, xLd_10, xLdb_3, xLdb_5, xLdb_9, xLdl_4, xLdr_6, xSt_2, xStl_4, xStb_3, xStb_5, xLen_s, xLen_10, xCpy_s, xIv_s, xMx_s, mCont_s, mCont_n, w32_s, w64_s, upC_e, upC_n, upC_u, upC_c, mEn_c, mEn_n, mcw_i, mcw_l, mcw_r, mcat_n, mcat_i, mcat_l, mcat_r, xlong_i, xlong_l, xlong_r, xlong_n, s1_at, s2_at, ↓reduceIte, reduceCtorEq, and_self, true_and, and_true, false_and, and_false, Bool.false_eq_true, ne_eq, not_true_eq_false, not_false_eq_true, or_true, true_or, or_false, false_or, or_self, Int.tmod_eq_emod_of_nonneg, Int.tdiv_eq_ediv_of_nonneg, Classical.not_not, xSw, rOK, b2i_ok, b2i_0, b2i_1, Nat.reduceAdd, Nat.reduceSub, Nat.reduceMul, Nat.reduceEqDiff, Nat.reduceLeDiff, Nat.reduceLT, Int.reduceAdd, Int.reduceSub, Int.reduceMul, Int.reduceNeg, Int.reduceEq, Int.reduceNe, Int.reduceLT, Int.reduceLE, Int.reduceToNat, Int.reduceTDiv, Int.reduceTMod, b2i_em]
  refine loopL (P := fun j lv M' => f59 M M' ∧ M' 59 2 = ((a + j : Nat) : Int) ∧ M' 59 3 = a ∧ lv 0 = some (vr 59)) (G := fun lv M' => rn (d + 5) 83 K 0 lv [] M') (q - a) 0 (Nat.zero_le _) _ _ ⟨f59_r, h2, h3, ?_⟩ (fun j hj ih lv M' hI => ?_) (fun lv M' hI => ?_)
  any_goals (simp [s1_at, s2_at, mEn_c, mcw_r, mcw_i, mcw_l, xlong_i, xlong_r, xlong_l, xlong_n]; done)
  · obtain ⟨hf, e2, e3, g0⟩ := hI
    have hT' := TC_c hT hf
    have e1 := hT'.1
    have hlj := hl (a + j) (by omega) (by omega)
    rw [← hT'.2.2.1] at hlj
    have w := fun (d : Nat) (K : mQ) => c_isLt1 (d := d) (M := M') (K := K) (j := ((a + j : Nat) : Int)) (by omega) hlj
    rw [w83_0]
    simp (disch := first | decide | omega) only [b83, w83_1, w83_4, w83_5, w83_8, w83_11, w83_12, w83_13, w83_16, w83_19, w83_22, w83_23, w83_24, w83_27, w83_28, w83_29, w83_32, w83_35, w83_36, w83_39, w83_40, w83_43, w83_44, w83_46, w83_49, w83_51, w83_52, w83_53, w83_55, w83_57, w83_60, w83_61, w83_62, w83_65, w83_68, w83_69, w83_70, w83_73, w83_76, w83_78, tc59, tr59_0, ta60, tn60, xLoad_i, xLoad_l, xLoad_r, xInc_s, xBr_t, xBr_f, xNz_s, xGf_s, xPf_s, xPz_s, xLd_2, xLd_7, xLd_10, xLdb_3, xLdb_5, xLdb_9, xLdl_4, xLdr_6, xSt_2, xStl_4, xStb_3, xStb_5, xLen_s, xLen_10, xCpy_s, xIv_s, xMx_s, mCont_s, mCont_n, w32_s, w64_s, upC_e, upC_n, upC_u, upC_c, mEn_c, mEn_n, mcw_i, mcw_l, mcw_r, mcat_n, mcat_i, mcat_l, mcat_r, xlong_i, xlong_l, xlong_r, xlong_n, s1_at, s2_at, ↓reduceIte, reduceCtorEq, and_self, true_and, and_true, false_and, and_false, Bool.false_eq_true, ne_eq, not_true_eq_false, not_false_eq_true, or_true, true_or, or_false, false_or, or_self, Int.tmod_eq_emod_of_nonneg, Int.tdiv_eq_ediv_of_nonneg, Classical.not_not, xSw, rOK, b2i_ok, b2i_0, b2i_1, Nat.reduceAdd, Nat.reduceSub, Nat.reduceMul, Nat.reduceEqDiff, Nat.reduceLeDiff, Nat.reduceLT, Int.reduceAdd, Int.reduceSub, Int.reduceMul, Int.reduceNeg, Int.reduceEq, Int.reduceNe, Int.reduceLT, Int.reduceLE, Int.reduceToNat, Int.reduceTDiv, Int.reduceTMod, b2i_em, g0, e1, e2, w]
    refine ih _ _ ⟨f59_u hf (by decide), by rw [upC_e, mU_e]; omega, by rw [upC_e, mU_n (by decide)]; exact e3, ?_⟩
    simp [s1_at, s2_at, mEn_c, mcw_r, mcw_i, mcw_l, xlong_i, xlong_r, xlong_l, xlong_n, g0]
  · obtain ⟨hf, e2, e3, g0⟩ := hI
    have hT' := TC_c hT hf
    have hk' := KC_f hk hf
    have e1 := hT'.1
    rw [show a + (q - a) = q by omega] at e2
    have hgo : rn (d + 5) 83 K 35 lv [] M' := by
      have hr := hR M' hf e2 e3
      unfold TKw at hw
      by_cases c6 : a + 6 < q
      · have hk4 : k = 44 := by
          rcases hw with ⟨g, -⟩ | ⟨g, -⟩
          · omega
          · exact g
        rw [hk4] at hr
        simp (disch := first | decide | omega) only [b83, w83_1, w83_4, w83_5, w83_8, w83_11, w83_12, w83_13, w83_16, w83_19, w83_22, w83_23, w83_24, w83_27, w83_28, w83_29, w83_32, w83_35, w83_36, w83_39, w83_40, w83_43, w83_44, w83_46, w83_49, w83_51, w83_52, w83_53, w83_55, w83_57, w83_60, w83_61, w83_62, w83_65, w83_68, w83_69, w83_70, w83_73, w83_76, w83_78, tc59, tr59_0, ta60, tn60, xLoad_i, xLoad_l, xLoad_r, xInc_s, xBr_t, xBr_f, xNz_s, xGf_s, xPf_s, xPz_s, xLd_2, xLd_7, xLd_10, xLdb_3, xLdb_5, xLdb_9, xLdl_4, xLdr_6, xSt_2, xStl_4, xStb_3, xStb_5, xLen_s, xLen_10, xCpy_s, xIv_s, xMx_s, mCont_s, mCont_n, w32_s, w64_s, upC_e, upC_n, upC_u, upC_c, mEn_c, mEn_n, mcw_i, mcw_l, mcw_r, mcat_n, mcat_i, mcat_l, mcat_r, xlong_i, xlong_l, xlong_r, xlong_n, s1_at, s2_at, ↓reduceIte, reduceCtorEq, and_self, true_and, and_true, false_and, and_false, Bool.false_eq_true, ne_eq, not_true_eq_false, not_false_eq_true, or_true, true_or, or_false, false_or, or_self, Int.tmod_eq_emod_of_nonneg, Int.tdiv_eq_ediv_of_nonneg, Classical.not_not, xSw, rOK, b2i_ok, b2i_0, b2i_1, Nat.reduceAdd, Nat.reduceSub, Nat.reduceMul, Nat.reduceEqDiff, Nat.reduceLeDiff, Nat.reduceLT, Int.reduceAdd, Int.reduceSub, Int.reduceMul, Int.reduceNeg, Int.reduceEq, Int.reduceNe, Int.reduceLT, Int.reduceLE, Int.reduceToNat, Int.reduceTDiv, Int.reduceTMod, b2i_em, g0, e2, e3]
        exact hr
      · simp (disch := first | decide | omega) only [b83, w83_1, w83_4, w83_5, w83_8, w83_11, w83_12, w83_13, w83_16, w83_19, w83_22, w83_23, w83_24, w83_27, w83_28, w83_29, w83_32, w83_35, w83_36, w83_39, w83_40, w83_43, w83_44, w83_46, w83_49, w83_51, w83_52, w83_53, w83_55, w83_57, w83_60, w83_61, w83_62, w83_65, w83_68, w83_69, w83_70, w83_73, w83_76, w83_78, tc59, tr59_0, ta60, tn60, xLoad_i, xLoad_l, xLoad_r, xInc_s, xBr_t, xBr_f, xNz_s, xGf_s, xPf_s, xPz_s, xLd_2, xLd_7, xLd_10, xLdb_3, xLdb_5, xLdb_9, xLdl_4, xLdr_6, xSt_2, xStl_4, xStb_3, xStb_5, xLen_s, xLen_10, xCpy_s, xIv_s, xMx_s, mCont_s, mCont_n, w32_s, w64_s, upC_e, upC_n, upC_u, upC_c, mEn_c, mEn_n, mcw_i, mcw_l, mcw_r, mcat_n, mcat_i, mcat_l, mcat_r, xlong_i, xlong_l, xlong_r, xlong_n, s1_at, s2_at, ↓reduceIte, reduceCtorEq, and_self, true_and, and_true, false_and, and_false, Bool.false_eq_true, ne_eq, not_true_eq_false, not_false_eq_true, or_true, true_or, or_false, false_or, or_self, Int.tmod_eq_emod_of_nonneg, Int.tdiv_eq_ediv_of_nonneg, Classical.not_not, xSw, rOK, b2i_ok, b2i_0, b2i_1, Nat.reduceAdd, Nat.reduceSub, Nat.reduceMul, Nat.reduceEqDiff, Nat.reduceLeDiff, Nat.reduceLT, Int.reduceAdd, Int.reduceSub, Int.reduceMul, Int.reduceNeg, Int.reduceEq, Int.reduceNe, Int.reduceLT, Int.reduceLE, Int.reduceToNat, Int.reduceTDiv, Int.reduceTMod, b2i_em, g0, e2, e3]
        rcases hw with ⟨-, w, w1, w2, w3, w4⟩ | ⟨g, g2⟩
        · refine loopL (P := fun u lv M2 => M2 = M' ∧ lv 0 = some (vr 59) ∧ lv 1 = some (vi (u : Nat))) (G := fun lv M' => rn (d + 5) 83 K 54 lv [] M') w 0 (Nat.zero_le _) _ _ ⟨rfl, ?_, ?_⟩ (fun u hu ih lv M2 hI => ?_) (fun lv M2 hI => ?_)
          any_goals (simp [s1_at, s2_at, mEn_c, mcw_r, mcw_i, mcw_l, xlong_i, xlong_r, xlong_l, xlong_n, g0]; done)
          · obtain ⟨rfl, g0, g1⟩ := hI
            have q0 := w4 u hu
            rw [← hT'.2.2.1] at q0
            have z := fun (d : Nat) (K : mQ) => c_isWord0 (d := d) (K := K) (w := u) hk' e2 e3 ⟨by omega, by omega⟩ (by omega) q0
            rw [w83_54]
            simp (disch := first | decide | omega) only [b83, w83_1, w83_4, w83_5, w83_8, w83_11, w83_12, w83_13, w83_16, w83_19, w83_22, w83_23, w83_24, w83_27, w83_28, w83_29, w83_32, w83_35, w83_36, w83_39, w83_40, w83_43, w83_44, w83_46, w83_49, w83_51, w83_52, w83_53, w83_55, w83_57, w83_60, w83_61, w83_62, w83_65, w83_68, w83_69, w83_70, w83_73, w83_76, w83_78, tc59, tr59_0, ta60, tn60, xLoad_i, xLoad_l, xLoad_r, xInc_s, xBr_t, xBr_f, xNz_s, xGf_s, xPf_s, xPz_s, xLd_2, xLd_7, xLd_10, xLdb_3, xLdb_5, xLdb_9, xLdl_4, xLdr_6, xSt_2, xStl_4, xStb_3, xStb_5, xLen_s, xLen_10, xCpy_s, xIv_s, xMx_s, mCont_s, mCont_n, w32_s, w64_s, upC_e, upC_n, upC_u, upC_c, mEn_c, mEn_n, mcw_i, mcw_l, mcw_r, mcat_n, mcat_i, mcat_l, mcat_r, xlong_i, xlong_l, xlong_r, xlong_n, s1_at, s2_at, ↓reduceIte, reduceCtorEq, and_self, true_and, and_true, false_and, and_false, Bool.false_eq_true, ne_eq, not_true_eq_false, not_false_eq_true, or_true, true_or, or_false, false_or, or_self, Int.tmod_eq_emod_of_nonneg, Int.tdiv_eq_ediv_of_nonneg, Classical.not_not, xSw, rOK, b2i_ok, b2i_0, b2i_1, Nat.reduceAdd, Nat.reduceSub, Nat.reduceMul, Nat.reduceEqDiff, Nat.reduceLeDiff, Nat.reduceLT, Int.reduceAdd, Int.reduceSub, Int.reduceMul, Int.reduceNeg, Int.reduceEq, Int.reduceNe, Int.reduceLT, Int.reduceLE, Int.reduceToNat, Int.reduceTDiv, Int.reduceTMod, b2i_em, g0, g1, z]
            refine ih _ _ ⟨rfl, ?_, ?_⟩
            all_goals simp [s1_at, s2_at, mEn_c, mcw_r, mcw_i, mcw_l, xlong_i, xlong_r, xlong_l, xlong_n, g0, g1]
          · obtain ⟨rfl, g0, g1⟩ := hI
            rw [← hT'.2.2.1] at w3
            have z := fun (d : Nat) (K : mQ) => c_isWord1 (d := d) (K := K) (w := w) hk' e2 e3 ⟨by omega, by omega⟩ (by omega) w3
            rw [w2] at hr
            rw [w83_54]
            simp (disch := first | decide | omega) only [b83, w83_1, w83_4, w83_5, w83_8, w83_11, w83_12, w83_13, w83_16, w83_19, w83_22, w83_23, w83_24, w83_27, w83_28, w83_29, w83_32, w83_35, w83_36, w83_39, w83_40, w83_43, w83_44, w83_46, w83_49, w83_51, w83_52, w83_53, w83_55, w83_57, w83_60, w83_61, w83_62, w83_65, w83_68, w83_69, w83_70, w83_73, w83_76, w83_78, tc59, tr59_0, ta60, tn60, xLoad_i, xLoad_l, xLoad_r, xInc_s, xBr_t, xBr_f, xNz_s, xGf_s, xPf_s, xPz_s, xLd_2, xLd_7, xLd_10, xLdb_3, xLdb_5, xLdb_9, xLdl_4, xLdr_6, xSt_2, xStl_4, xStb_3, xStb_5, xLen_s, xLen_10, xCpy_s, xIv_s, xMx_s, mCont_s, mCont_n, w32_s, w64_s, upC_e, upC_n, upC_u, upC_c, mEn_c, mEn_n, mcw_i, mcw_l, mcw_r, mcat_n, mcat_i, mcat_l, mcat_r, xlong_i, xlong_l, xlong_r, xlong_n, s1_at, s2_at, ↓reduceIte, reduceCtorEq, and_self, true_and, and_true, false_and, and_false, Bool.false_eq_true, ne_eq, not_true_eq_false, not_false_eq_true, or_true, true_or, or_false, false_or, or_self, Int.tmod_eq_emod_of_nonneg, Int.tdiv_eq_ediv_of_nonneg, Classical.not_not, xSw, rOK, b2i_ok, b2i_0, b2i_1, Nat.reduceAdd, Nat.reduceSub, Nat.reduceMul, Nat.reduceEqDiff, Nat.reduceLeDiff, Nat.reduceLT, Int.reduceAdd, Int.reduceSub, Int.reduceMul, Int.reduceNeg, Int.reduceEq, Int.reduceNe, Int.reduceLT, Int.reduceLE, Int.reduceToNat, Int.reduceTDiv, Int.reduceTMod, b2i_em, g0, g1, z]
            exact hr
        · have g3 : ∀ w : Nat, w < 28 → ¬ wMt f a q w := by
            rcases g2 with g2 | g2
            · exact absurd g2 c6
            · exact g2
          rw [g] at hr
          refine loopL (P := fun u lv M2 => M2 = M' ∧ lv 0 = some (vr 59) ∧ lv 1 = some (vi (u : Nat))) (G := fun lv M' => rn (d + 5) 83 K 54 lv [] M') 28 0 (Nat.zero_le _) _ _ ⟨rfl, ?_, ?_⟩ (fun u hu ih lv M2 hI => ?_) (fun lv M2 hI => ?_)
          any_goals (simp [s1_at, s2_at, mEn_c, mcw_r, mcw_i, mcw_l, xlong_i, xlong_r, xlong_l, xlong_n, g0]; done)
          · obtain ⟨rfl, g0, g1⟩ := hI
            have q0 := g3 u hu
            rw [← hT'.2.2.1] at q0
            have z := fun (d : Nat) (K : mQ) => c_isWord0 (d := d) (K := K) (w := u) hk' e2 e3 ⟨by omega, by omega⟩ (by omega) q0
            rw [w83_54]
            simp (disch := first | decide | omega) only [b83, w83_1, w83_4, w83_5, w83_8, w83_11, w83_12, w83_13, w83_16, w83_19, w83_22, w83_23, w83_24, w83_27, w83_28, w83_29, w83_32, w83_35, w83_36, w83_39, w83_40, w83_43, w83_44, w83_46, w83_49, w83_51, w83_52, w83_53, w83_55, w83_57, w83_60, w83_61, w83_62, w83_65, w83_68, w83_69, w83_70, w83_73, w83_76, w83_78, tc59, tr59_0, ta60, tn60, xLoad_i, xLoad_l, xLoad_r, xInc_s, xBr_t, xBr_f, xNz_s, xGf_s, xPf_s, xPz_s, xLd_2, xLd_7, xLd_10, xLdb_3, xLdb_5, xLdb_9, xLdl_4, xLdr_6, xSt_2, xStl_4, xStb_3, xStb_5, xLen_s, xLen_10, xCpy_s, xIv_s, xMx_s, mCont_s, mCont_n, w32_s, w64_s, upC_e, upC_n, upC_u, upC_c, mEn_c, mEn_n, mcw_i, mcw_l, mcw_r, mcat_n, mcat_i, mcat_l, mcat_r, xlong_i, xlong_l, xlong_r, xlong_n, s1_at, s2_at, ↓reduceIte, reduceCtorEq, and_self, true_and, and_true, false_and, and_false, Bool.false_eq_true, ne_eq, not_true_eq_false, not_false_eq_true, or_true, true_or, or_false, false_or, or_self, Int.tmod_eq_emod_of_nonneg, Int.tdiv_eq_ediv_of_nonneg, Classical.not_not, xSw, rOK, b2i_ok, b2i_0, b2i_1, Nat.reduceAdd, Nat.reduceSub, Nat.reduceMul, Nat.reduceEqDiff, Nat.reduceLeDiff, Nat.reduceLT, Int.reduceAdd, Int.reduceSub, Int.reduceMul, Int.reduceNeg, Int.reduceEq, Int.reduceNe, Int.reduceLT, Int.reduceLE, Int.reduceToNat, Int.reduceTDiv, Int.reduceTMod, b2i_em, g0, g1, z]
            refine ih _ _ ⟨rfl, ?_, ?_⟩
            all_goals simp [s1_at, s2_at, mEn_c, mcw_r, mcw_i, mcw_l, xlong_i, xlong_r, xlong_l, xlong_n, g0, g1]
          · obtain ⟨rfl, g0, g1⟩ := hI
            rw [w83_54]
            simp (disch := first | decide | omega) only [b83, w83_1, w83_4, w83_5, w83_8, w83_11, w83_12, w83_13, w83_16, w83_19, w83_22, w83_23, w83_24, w83_27, w83_28, w83_29, w83_32, w83_35, w83_36, w83_39, w83_40, w83_43, w83_44, w83_46, w83_49, w83_51, w83_52, w83_53, w83_55, w83_57, w83_60, w83_61, w83_62, w83_65, w83_68, w83_69, w83_70, w83_73, w83_76, w83_78, tc59, tr59_0, ta60, tn60, xLoad_i, xLoad_l, xLoad_r, xInc_s, xBr_t, xBr_f, xNz_s, xGf_s, xPf_s, xPz_s, xLd_2, xLd_7, xLd_10, xLdb_3, xLdb_5, xLdb_9, xLdl_4, xLdr_6, xSt_2, xStl_4, xStb_3, xStb_5, xLen_s, xLen_10, xCpy_s, xIv_s, xMx_s, mCont_s, mCont_n, w32_s, w64_s, upC_e, upC_n, upC_u, upC_c, mEn_c, mEn_n, mcw_i, mcw_l, mcw_r, mcat_n, mcat_i, mcat_l, mcat_r, xlong_i, xlong_l, xlong_r, xlong_n, s1_at, s2_at, ↓reduceIte, reduceCtorEq, and_self, true_and, and_true, false_and, and_false, Bool.false_eq_true, ne_eq, not_true_eq_false, not_false_eq_true, or_true, true_or, or_false, false_or, or_self, Int.tmod_eq_emod_of_nonneg, Int.tdiv_eq_ediv_of_nonneg, Classical.not_not, xSw, rOK, b2i_ok, b2i_0, b2i_1, Nat.reduceAdd, Nat.reduceSub, Nat.reduceMul, Nat.reduceEqDiff, Nat.reduceLeDiff, Nat.reduceLT, Int.reduceAdd, Int.reduceSub, Int.reduceMul, Int.reduceNeg, Int.reduceEq, Int.reduceNe, Int.reduceLT, Int.reduceLE, Int.reduceToNat, Int.reduceTDiv, Int.reduceTMod, b2i_em, g0, g1]
            exact hr
    rw [w83_0]
    by_cases cq : q < n
    · have hlq := hq cq
      rw [← hT'.2.2.1] at hlq
      have w := fun (d : Nat) (K : mQ) => c_isLt0 (d := d) (M := M') (K := K) (j := (q : Int)) (by omega) hlq
      simp (disch := first | decide | omega) only [b83, w83_1, w83_4, w83_5, w83_8, w83_11, w83_12, w83_13, w83_16, w83_19, w83_22, w83_23, w83_24, w83_27, w83_28, w83_29, w83_32, w83_36, w83_39, w83_40, w83_43, w83_44, w83_46, w83_49, w83_51, w83_52, w83_53, w83_55, w83_57, w83_60, w83_61, w83_62, w83_65, w83_68, w83_69, w83_70, w83_73, w83_76, w83_78, tc59, tr59_0, ta60, tn60, xLoad_i, xLoad_l, xLoad_r, xInc_s, xBr_t, xBr_f, xNz_s, xGf_s, xPf_s, xPz_s, xLd_2, xLd_7, xLd_10, xLdb_3, xLdb_5, xLdb_9, xLdl_4, xLdr_6, xSt_2, xStl_4, xStb_3, xStb_5, xLen_s, xLen_10, xCpy_s, xIv_s, xMx_s, mCont_s, mCont_n, w32_s, w64_s, upC_e, upC_n, upC_u, upC_c, mEn_c, mEn_n, mcw_i, mcw_l, mcw_r, mcat_n, mcat_i, mcat_l, mcat_r, xlong_i, xlong_l, xlong_r, xlong_n, s1_at, s2_at, ↓reduceIte, reduceCtorEq, and_self, true_and, and_true, false_and, and_false, Bool.false_eq_true, ne_eq, not_true_eq_false, not_false_eq_true, or_true, true_or, or_false, false_or, or_self, Int.tmod_eq_emod_of_nonneg, Int.tdiv_eq_ediv_of_nonneg, Classical.not_not, xSw, rOK, b2i_ok, b2i_0, b2i_1, Nat.reduceAdd, Nat.reduceSub, Nat.reduceMul, Nat.reduceEqDiff, Nat.reduceLeDiff, Nat.reduceLT, Int.reduceAdd, Int.reduceSub, Int.reduceMul, Int.reduceNeg, Int.reduceEq, Int.reduceNe, Int.reduceLT, Int.reduceLE, Int.reduceToNat, Int.reduceTDiv, Int.reduceTMod, b2i_em, g0, e1, e2, w]
      exact hgo
    · simp (disch := first | decide | omega) only [b83, w83_1, w83_4, w83_5, w83_8, w83_11, w83_12, w83_13, w83_16, w83_19, w83_22, w83_23, w83_24, w83_27, w83_28, w83_29, w83_32, w83_36, w83_39, w83_40, w83_43, w83_44, w83_46, w83_49, w83_51, w83_52, w83_53, w83_55, w83_57, w83_60, w83_61, w83_62, w83_65, w83_68, w83_69, w83_70, w83_73, w83_76, w83_78, tc59, tr59_0, ta60, tn60, xLoad_i, xLoad_l, xLoad_r, xInc_s, xBr_t, xBr_f, xNz_s, xGf_s, xPf_s, xPz_s, xLd_2, xLd_7, xLd_10, xLdb_3, xLdb_5, xLdb_9, xLdl_4, xLdr_6, xSt_2, xStl_4, xStb_3, xStb_5, xLen_s, xLen_10, xCpy_s, xIv_s, xMx_s, mCont_s, mCont_n, w32_s, w64_s, upC_e, upC_n, upC_u, upC_c, mEn_c, mEn_n, mcw_i, mcw_l, mcw_r, mcat_n, mcat_i, mcat_l, mcat_r, xlong_i, xlong_l, xlong_r, xlong_n, s1_at, s2_at, ↓reduceIte, reduceCtorEq, and_self, true_and, and_true, false_and, and_false, Bool.false_eq_true, ne_eq, not_true_eq_false, not_false_eq_true, or_true, true_or, or_false, false_or, or_self, Int.tmod_eq_emod_of_nonneg, Int.tdiv_eq_ediv_of_nonneg, Classical.not_not, xSw, rOK, b2i_ok, b2i_0, b2i_1, Nat.reduceAdd, Nat.reduceSub, Nat.reduceMul, Nat.reduceEqDiff, Nat.reduceLeDiff, Nat.reduceLT, Int.reduceAdd, Int.reduceSub, Int.reduceMul, Int.reduceNeg, Int.reduceEq, Int.reduceNe, Int.reduceLT, Int.reduceLE, Int.reduceToNat, Int.reduceTDiv, Int.reduceTMod, b2i_em, g0, e1, e2]
      exact hgo
theorem nmV_R {f : Int → Int} {a : Nat} : ∀ m : Nat, (∀ j : Nat, j < m → isDg (f ((a : Int) + j))) → 0 ≤ nmV f a m ∧ nmV f a m ≤ 10000
  | 0, _ => by unfold nmV; omega
  | m + 1, h => by
    have ih := nmV_R (f := f) (a := a) m (fun j hj => h j (by omega))
    have hm := h m (by omega)
    unfold isDg at hm
    unfold nmV
    omega
set_option maxHeartbeats 1000000 in
theorem c_nextNumber {d n a q : Nat} {M : mM} {K : mQ} {f : Int → Int} (hT : TC M f n) (h2 : M 59 2 = a) (h3 : M 59 3 = a) (haq : a < q ∧ q ≤ n) (hl : ∀ j : Nat, a ≤ j → j < q → isDg (f j)) (hq : q < n → ¬ isDg (f q)) (hR : ∀ M', f59 M M' → M' 59 2 = q → M' 59 3 = a → M' 59 4 = nmV f a (q - a) → K (some (vi 42)) M') : mCall (d + 2) 85 [vr 59] M K := by
  have n3 := hT.2.1
  simp (disch := first | decide | omega) only [b85, w85_0, w85_1, w85_2, w85_6, w85_9, w85_10, w85_13, w85_16, w85_17, w85_18, w85_21, w85_24, w85_27, w85_28, w85_31, w85_32, w85_35, w85_37, w85_38, w85_39, w85_42, w85_43, w85_46, w85_47, w85_48, w85_50, w85_51, w85_54, w85_57, w85_58, w85_59, w85_62, w85_63, w85_64, w85_67, w85_70, w85_72, tc59, tr59_0, ta60, tn60, xLoad_i, xLoad_l, xLoad_r, xInc_s, xBr_t, xBr_f, xNz_s, xGf_s, xPf_s, xPz_s, xLd_2, xLd_7, xLd_10, xLdb_3, xLdb_5, xLdb_9, xLdl_4, xLdr_6, xSt_2, xStl_4, xStb_3, xStb_5, xLen_s, xLen_10, xCpy_s, xIv_s, xMx_s, mCont_s, mCont_n, w32_s, w64_s, upC_e, upC_n, upC_u, upC_c, mEn_c, mEn_n, mcw_i, mcw_l, mcw_r, mcat_n, mcat_i, mcat_l, mcat_r, xlong_i, xlong_l, xlong_r, xlong_n, s1_at, s2_at, ↓reduceIte, reduceCtorEq, and_self, true_and, and_true, false_and, and_false, Bool.false_eq_true, ne_eq, not_true_eq_false, not_false_eq_true, or_true, true_or, or_false, false_or, or_self, Int.tmod_eq_emod_of_nonneg, Int.tdiv_eq_ediv_of_nonneg, Classical.not_not, xSw, rOK, b2i_ok, b2i_0, b2i_1, Nat.reduceAdd, Nat.reduceSub, Nat.reduceMul, Nat.reduceEqDiff, Nat.reduceLeDiff, Nat.reduceLT, Int.reduceAdd, Int.reduceSub, Int.reduceMul, Int.reduceNeg, Int.reduceEq, Int.reduceNe, Int.reduceLT, Int.reduceLE, Int.reduceToNat, Int.reduceTDiv, Int.reduceTMod, b2i_em]
  refine loopL (P := fun j lv M' => f59 M M' ∧ M' 59 2 = ((a + j : Nat) : Int) ∧ M' 59 3 = a ∧ M' 59 4 = nmV f a j ∧ lv 0 = some (vr 59)) (G := fun lv M' => rn (d + 1) 85 K 5 lv [] M') (q - a) 0 (Nat.zero_le _) _ _ ⟨f59_u f59_r (by decide), by rw [upC_e, mU_n (by decide)]; exact h2, by rw [upC_e, mU_n (by decide)]; exact h3, by rw [upC_e, mU_e]; rfl, ?_⟩ (fun j hj ih lv M' hI => ?_) (fun lv M' hI => ?_)
  any_goals (simp [s1_at, s2_at, mEn_c, mcw_r, mcw_i, mcw_l, xlong_i, xlong_r, xlong_l, xlong_n]; done)
  · obtain ⟨hf, e2, e3, e4, g0⟩ := hI
    have hT' := TC_c hT hf
    have e1 := hT'.1
    have hlj := hl (a + j) (by omega) (by omega)
    have hR' := nmV_R (f := f) (a := a) j (fun i hi => by have := hl (a + i) (by omega) (by omega); rw [show ((a + i : Nat) : Int) = (a : Int) + i by omega] at this; exact this)
    have hs : nmV f a (j + 1) = min 10000 (nmV f a j * 10 + f ((a : Int) + j) - 48) := rfl
    have e60 := hT'.2.2.1
    rw [← e60] at hlj
    have w := fun (d : Nat) (K : mQ) => c_isDg1 (d := d) (M := M') (K := K) (j := ((a + j : Nat) : Int)) (by omega) hlj
    rw [e60, show ((a + j : Nat) : Int) = (a : Int) + j by omega] at hlj
    unfold isDg at hlj
    generalize nmV f a j = x at hs hR' e4
    rw [show ((a + j : Nat) : Int) = (a : Int) + j by omega] at e2 w
    rw [w85_5]
    simp (disch := first | decide | omega) only [b85, w85_0, w85_1, w85_2, w85_6, w85_9, w85_10, w85_13, w85_16, w85_17, w85_18, w85_21, w85_24, w85_27, w85_28, w85_31, w85_32, w85_35, w85_37, w85_38, w85_39, w85_42, w85_43, w85_46, w85_47, w85_48, w85_50, w85_51, w85_54, w85_57, w85_58, w85_59, w85_62, w85_63, w85_64, w85_67, w85_70, w85_72, tc59, tr59_0, ta60, tn60, xLoad_i, xLoad_l, xLoad_r, xInc_s, xBr_t, xBr_f, xNz_s, xGf_s, xPf_s, xPz_s, xLd_2, xLd_7, xLd_10, xLdb_3, xLdb_5, xLdb_9, xLdl_4, xLdr_6, xSt_2, xStl_4, xStb_3, xStb_5, xLen_s, xLen_10, xCpy_s, xIv_s, xMx_s, mCont_s, mCont_n, w32_s, w64_s, upC_e, upC_n, upC_u, upC_c, mEn_c, mEn_n, mcw_i, mcw_l, mcw_r, mcat_n, mcat_i, mcat_l, mcat_r, xlong_i, xlong_l, xlong_r, xlong_n, s1_at, s2_at, ↓reduceIte, reduceCtorEq, and_self, true_and, and_true, false_and, and_false, Bool.false_eq_true, ne_eq, not_true_eq_false, not_false_eq_true, or_true, true_or, or_false, false_or, or_self, Int.tmod_eq_emod_of_nonneg, Int.tdiv_eq_ediv_of_nonneg, Classical.not_not, xSw, rOK, b2i_ok, b2i_0, b2i_1, Nat.reduceAdd, Nat.reduceSub, Nat.reduceMul, Nat.reduceEqDiff, Nat.reduceLeDiff, Nat.reduceLT, Int.reduceAdd, Int.reduceSub, Int.reduceMul, Int.reduceNeg, Int.reduceEq, Int.reduceNe, Int.reduceLT, Int.reduceLE, Int.reduceToNat, Int.reduceTDiv, Int.reduceTMod, b2i_em, g0, e1, e2, e4, e60, w, mU_n, mU_e]
    refine ih _ _ ⟨f59_u2 hf (by decide) (by decide), by rw [upC_e, mU_e]; omega, ?_, ?_, ?_⟩
    · simp (disch := first | decide | omega) only [upC_e, upC_n, mU_e, mU_n]
      exact e3
    · rw [hs]
      simp (disch := first | decide | omega) only [upC_e, upC_n, mU_e, mU_n]
    · simp [s1_at, s2_at, mEn_c, mcw_r, mcw_i, mcw_l, xlong_i, xlong_r, xlong_l, xlong_n, g0]
  · obtain ⟨hf, e2, e3, e4, g0⟩ := hI
    have hT' := TC_c hT hf
    have e1 := hT'.1
    rw [show a + (q - a) = q by omega] at e2
    have hr := hR M' hf e2 e3 e4
    rw [w85_5]
    by_cases cq : q < n
    · have hlq := hq cq
      rw [← hT'.2.2.1] at hlq
      have w := fun (d : Nat) (K : mQ) => c_isDg0 (d := d) (M := M') (K := K) (j := (q : Int)) (by omega) hlq
      simp (disch := first | decide | omega) only [b85, w85_0, w85_1, w85_2, w85_6, w85_9, w85_10, w85_13, w85_16, w85_17, w85_18, w85_21, w85_24, w85_27, w85_28, w85_31, w85_32, w85_35, w85_37, w85_38, w85_39, w85_42, w85_43, w85_46, w85_47, w85_48, w85_50, w85_51, w85_54, w85_57, w85_58, w85_59, w85_62, w85_63, w85_64, w85_67, w85_70, w85_72, tc59, tr59_0, ta60, tn60, xLoad_i, xLoad_l, xLoad_r, xInc_s, xBr_t, xBr_f, xNz_s, xGf_s, xPf_s, xPz_s, xLd_2, xLd_7, xLd_10, xLdb_3, xLdb_5, xLdb_9, xLdl_4, xLdr_6, xSt_2, xStl_4, xStb_3, xStb_5, xLen_s, xLen_10, xCpy_s, xIv_s, xMx_s, mCont_s, mCont_n, w32_s, w64_s, upC_e, upC_n, upC_u, upC_c, mEn_c, mEn_n, mcw_i, mcw_l, mcw_r, mcat_n, mcat_i, mcat_l, mcat_r, xlong_i, xlong_l, xlong_r, xlong_n, s1_at, s2_at, ↓reduceIte, reduceCtorEq, and_self, true_and, and_true, false_and, and_false, Bool.false_eq_true, ne_eq, not_true_eq_false, not_false_eq_true, or_true, true_or, or_false, false_or, or_self, Int.tmod_eq_emod_of_nonneg, Int.tdiv_eq_ediv_of_nonneg, Classical.not_not, xSw, rOK, b2i_ok, b2i_0, b2i_1, Nat.reduceAdd, Nat.reduceSub, Nat.reduceMul, Nat.reduceEqDiff, Nat.reduceLeDiff, Nat.reduceLT, Int.reduceAdd, Int.reduceSub, Int.reduceMul, Int.reduceNeg, Int.reduceEq, Int.reduceNe, Int.reduceLT, Int.reduceLE, Int.reduceToNat, Int.reduceTDiv, Int.reduceTMod, b2i_em, g0, e1, e2, w]
      exact hr
    · simp (disch := first | decide | omega) only [b85, w85_0, w85_1, w85_2, w85_6, w85_9, w85_10, w85_13, w85_16, w85_17, w85_18, w85_21, w85_24, w85_27, w85_28, w85_31, w85_32, w85_35, w85_37, w85_38, w85_39, w85_42, w85_43, w85_46, w85_47, w85_48, w85_50, w85_51, w85_54, w85_57, w85_58, w85_59, w85_62, w85_63, w85_64, w85_67, w85_70, w85_72, tc59, tr59_0, ta60, tn60, xLoad_i, xLoad_l, xLoad_r, xInc_s, xBr_t, xBr_f, xNz_s, xGf_s, xPf_s, xPz_s, xLd_2, xLd_7, xLd_10, xLdb_3, xLdb_5, xLdb_9, xLdl_4, xLdr_6, xSt_2, xStl_4, xStb_3, xStb_5, xLen_s, xLen_10, xCpy_s, xIv_s, xMx_s, mCont_s, mCont_n, w32_s, w64_s, upC_e, upC_n, upC_u, upC_c, mEn_c, mEn_n, mcw_i, mcw_l, mcw_r, mcat_n, mcat_i, mcat_l, mcat_r, xlong_i, xlong_l, xlong_r, xlong_n, s1_at, s2_at, ↓reduceIte, reduceCtorEq, and_self, true_and, and_true, false_and, and_false, Bool.false_eq_true, ne_eq, not_true_eq_false, not_false_eq_true, or_true, true_or, or_false, false_or, or_self, Int.tmod_eq_emod_of_nonneg, Int.tdiv_eq_ediv_of_nonneg, Classical.not_not, xSw, rOK, b2i_ok, b2i_0, b2i_1, Nat.reduceAdd, Nat.reduceSub, Nat.reduceMul, Nat.reduceEqDiff, Nat.reduceLeDiff, Nat.reduceLT, Int.reduceAdd, Int.reduceSub, Int.reduceMul, Int.reduceNeg, Int.reduceEq, Int.reduceNe, Int.reduceLT, Int.reduceLE, Int.reduceToNat, Int.reduceTDiv, Int.reduceTMod, b2i_em, g0, e1, e2]
      exact hr
theorem ct150 : ∀ i : Nat, i < 14 → CT 150 i = 60 ∨ CT 150 i = 62 ∨ CT 150 i = 61 ∨ CT 150 i = 35 ∨ CT 150 i = 43 ∨ CT 150 i = 45 ∨ CT 150 i = 42 ∨ CT 150 i = 47 ∨ CT 150 i = 37 ∨ CT 150 i = 40 ∨ CT 150 i = 41 ∨ CT 150 i = 59 ∨ CT 150 i = 32 := by decide +kernel
theorem ct150j : ∀ j : Nat, j < 14 → j ≠ 1 → j ≠ 3 → ∀ i : Nat, i < j → CT 150 i ≠ CT 150 j := by decide +kernel
theorem sgK_j : ∀ j : Nat, j < 14 → j ≠ 1 → j ≠ 3 → sgK (CT 150 j) = 28 + (j : Int) := by decide +kernel
theorem sgK_x {x : Int} (h : x ≠ 32) : (∃ j : Nat, j < 14 ∧ j ≠ 1 ∧ j ≠ 3 ∧ CT 150 j = x) ∨ (sgK x = 44 ∧ ∀ i : Nat, i < 14 → CT 150 i ≠ x) := by
  by_cases c : ∃ j : Nat, j < 14 ∧ j ≠ 1 ∧ j ≠ 3 ∧ CT 150 j = x
  · exact Or.inl c
  · right
    have hn : ∀ j : Nat, j < 14 → j ≠ 1 → j ≠ 3 → x ≠ CT 150 j := fun j h1 h2 h3 e => c ⟨j, h1, h2, h3, e.symm⟩
    have q0 := hn 0 (by decide) (by decide) (by decide)
    have q2 := hn 2 (by decide) (by decide) (by decide)
    have q4 := hn 4 (by decide) (by decide) (by decide)
    have q5 := hn 5 (by decide) (by decide) (by decide)
    have q6 := hn 6 (by decide) (by decide) (by decide)
    have q7 := hn 7 (by decide) (by decide) (by decide)
    have q8 := hn 8 (by decide) (by decide) (by decide)
    have q9 := hn 9 (by decide) (by decide) (by decide)
    have q10 := hn 10 (by decide) (by decide) (by decide)
    have q11 := hn 11 (by decide) (by decide) (by decide)
    have q12 := hn 12 (by decide) (by decide) (by decide)
    have q13 := hn 13 (by decide) (by decide) (by decide)
    rw [show CT 150 ((0 : Nat) : Int) = 60 by decide +kernel] at q0
    rw [show CT 150 ((2 : Nat) : Int) = 62 by decide +kernel] at q2
    rw [show CT 150 ((4 : Nat) : Int) = 61 by decide +kernel] at q4
    rw [show CT 150 ((5 : Nat) : Int) = 35 by decide +kernel] at q5
    rw [show CT 150 ((6 : Nat) : Int) = 43 by decide +kernel] at q6
    rw [show CT 150 ((7 : Nat) : Int) = 45 by decide +kernel] at q7
    rw [show CT 150 ((8 : Nat) : Int) = 42 by decide +kernel] at q8
    rw [show CT 150 ((9 : Nat) : Int) = 47 by decide +kernel] at q9
    rw [show CT 150 ((10 : Nat) : Int) = 37 by decide +kernel] at q10
    rw [show CT 150 ((11 : Nat) : Int) = 40 by decide +kernel] at q11
    rw [show CT 150 ((12 : Nat) : Int) = 41 by decide +kernel] at q12
    rw [show CT 150 ((13 : Nat) : Int) = 59 by decide +kernel] at q13
    refine ⟨by unfold sgK; simp [q0, q2, q4, q5, q6, q7, q8, q9, q10, q11, q12, q13], fun i hi => ?_⟩
    have := ct150 i hi
    omega
set_option maxHeartbeats 1000000 in
theorem c_nextSign {d n a q : Nat} {M : mM} {K : mQ} {f : Int → Int} {k : Int} (hT : TC M f n) (hk : KC M) (h2 : M 59 2 = a) (h3 : M 59 3 = a) (han : a < n) (hbl : ¬ isBl (f a)) (hs : (sg2 f n a ∧ q = a + 2 ∧ k = sgK (f a) + 1) ∨ (¬ sg2 f n a ∧ q = a + 1 ∧ k = sgK (f a))) (hR : ∀ M', f59 M M' → M' 59 2 = q → M' 59 3 = a → K (some (vi k)) M') : mCall (d + 5) 86 [vr 59] M K := by
  have n3 := hT.2.1
  have e1 := hT.1
  have e60 := hT.2.2.1
  have hb := hT.2.2.2 a han
  have hx32 : f a ≠ 32 := fun e => hbl (Or.inl e)
  have h255 : iAnd (f a) 255 = f a % 256 := and255 (by unfold R32; omega)
  have hc : i2c (f a % 256) = f a % 256 := by unfold i2c; omega
  have hib : i2b (f a % 256) = f a := by
    unfold i2b
    rw [Int8.toInt_ofInt]
    show Int.bmod (f a % 256) 256 = f a
    unfold Int.bmod
    dsimp only
    split <;> omega
  rcases sgK_x hx32 with ⟨j, j1, j2, j3, j4⟩ | ⟨j1, j2⟩
  · have w := fun (d : Nat) (K : mQ) => c_indexOf (d := d) (M := M) (K := K) (x := f a % 256) (z := j) hk.2.2.1 (by omega) (fun d K => j_ioc1 j1 (by rw [hib, hk.2.2.2]; exact j4) (fun i hi => by rw [hib, hk.2.2.2, ← j4]; exact ct150j j j1 j2 j3 i hi))
    have hkj := sgK_j j j1 j2 j3
    rw [j4] at hkj
    rw [hkj] at hs
    by_cases c : (f a = 60 ∨ f a = 62)
    · have hj : j = 0 ∨ j = 2 := by
        have hne := fun (i : Nat) h => ct150j i h
        rcases c with c | c
        · left
          rcases Nat.eq_zero_or_pos j with g | g
          · exact g
          · have := ct150j j j1 j2 j3 0 g
            rw [j4, c] at this
            exact absurd (by decide +kernel) this
        · right
          rcases Nat.lt_trichotomy j 2 with g | g | g
          · have : j = 0 := by omega
            rw [this, c] at j4
            exact absurd j4 (by decide +kernel)
          · exact g
          · have := ct150j j j1 j2 j3 2 g
            rw [j4, c] at this
            exact absurd (by decide +kernel) this
      by_cases c2 : a + 1 < n
      · by_cases c3 : f ((a : Int) + 1) = 61
        · rcases hs with ⟨-, q1, q2⟩ | ⟨g, -⟩
          · have hfin : ∀ M', f59 M M' → M' 59 2 = q → M' 59 3 = a → K (some (vi (28 + (j : Int) + 1))) M' := fun M' f x y => by
              have hr := hR M' f x y
              rw [q2] at hr
              exact hr
            rcases hj with rfl | rfl
            · simp (disch := first | decide | omega) only [b86, w86_0, w86_2, w86_3, w86_6, w86_7, w86_10, w86_11, w86_14, w86_15, w86_16, w86_19, w86_20, w86_21, w86_22, w86_25, w86_26, w86_27, w86_30, w86_31, w86_34, w86_36, w86_37, w86_39, w86_40, w86_41, w86_42, w86_43, w86_45, w86_48, w86_49, w86_51, w86_54, w86_55, w86_58, w86_59, w86_62, w86_65, w86_66, w86_69, w86_70, w86_73, w86_74, w86_76, w86_79, w86_80, w86_81, w86_84, w86_85, w86_86, w86_89, w86_92, w86_93, tc59, tr59_0, ta60, tn60, tc149, tr149_0, xLoad_i, xLoad_l, xLoad_r, xInc_s, xBr_t, xBr_f, xNz_s, xGf_s, xPf_s, xPz_s, xLd_2, xLd_7, xLd_10, xLdb_3, xLdb_5, xLdb_9, xLdl_4, xLdr_6, xSt_2, xStl_4, xStb_3, xStb_5, xLen_s, xLen_10, xCpy_s, xIv_s, xMx_s, mCont_s, mCont_n, w32_s, w64_s, upC_e, upC_n, upC_u, upC_c, mEn_c, mEn_n, mcw_i, mcw_l, mcw_r, mcat_n, mcat_i, mcat_l, mcat_r, xlong_i, xlong_l, xlong_r, xlong_n, s1_at, s2_at, ↓reduceIte, reduceCtorEq, and_self, true_and, and_true, false_and, and_false, Bool.false_eq_true, ne_eq, not_true_eq_false, not_false_eq_true, or_true, true_or, or_false, false_or, or_self, Int.tmod_eq_emod_of_nonneg, Int.tdiv_eq_ediv_of_nonneg, Classical.not_not, xSw, rOK, b2i_ok, b2i_0, b2i_1, Nat.reduceAdd, Nat.reduceSub, Nat.reduceMul, Nat.reduceEqDiff, Nat.reduceLeDiff, Nat.reduceLT, Int.reduceAdd, Int.reduceSub, Int.reduceMul, Int.reduceNeg, Int.reduceEq, Int.reduceNe, Int.reduceLT, Int.reduceLE, Int.reduceToNat, Int.reduceTDiv, Int.reduceTMod, b2i_em, h2, e1, e60, h255, hc, w, c3, mU_n, mU_e]
              refine hfin _ ?_ ?_ ?_
              · exact f59_u2 f59_r (by decide) (by decide)
              · simp (disch := first | decide | omega) only [upC_e, upC_n, mU_e, mU_n]
                omega
              · simp (disch := first | decide | omega) only [upC_e, upC_n, mU_e, mU_n]
                exact h3
            · simp (disch := first | decide | omega) only [b86, w86_0, w86_2, w86_3, w86_6, w86_7, w86_10, w86_11, w86_14, w86_15, w86_16, w86_19, w86_20, w86_21, w86_22, w86_25, w86_26, w86_27, w86_30, w86_31, w86_34, w86_36, w86_37, w86_39, w86_40, w86_41, w86_42, w86_43, w86_45, w86_48, w86_49, w86_51, w86_54, w86_55, w86_58, w86_59, w86_62, w86_65, w86_66, w86_69, w86_70, w86_73, w86_74, w86_76, w86_79, w86_80, w86_81, w86_84, w86_85, w86_86, w86_89, w86_92, w86_93, tc59, tr59_0, ta60, tn60, tc149, tr149_0, xLoad_i, xLoad_l, xLoad_r, xInc_s, xBr_t, xBr_f, xNz_s, xGf_s, xPf_s, xPz_s, xLd_2, xLd_7, xLd_10, xLdb_3, xLdb_5, xLdb_9, xLdl_4, xLdr_6, xSt_2, xStl_4, xStb_3, xStb_5, xLen_s, xLen_10, xCpy_s, xIv_s, xMx_s, mCont_s, mCont_n, w32_s, w64_s, upC_e, upC_n, upC_u, upC_c, mEn_c, mEn_n, mcw_i, mcw_l, mcw_r, mcat_n, mcat_i, mcat_l, mcat_r, xlong_i, xlong_l, xlong_r, xlong_n, s1_at, s2_at, ↓reduceIte, reduceCtorEq, and_self, true_and, and_true, false_and, and_false, Bool.false_eq_true, ne_eq, not_true_eq_false, not_false_eq_true, or_true, true_or, or_false, false_or, or_self, Int.tmod_eq_emod_of_nonneg, Int.tdiv_eq_ediv_of_nonneg, Classical.not_not, xSw, rOK, b2i_ok, b2i_0, b2i_1, Nat.reduceAdd, Nat.reduceSub, Nat.reduceMul, Nat.reduceEqDiff, Nat.reduceLeDiff, Nat.reduceLT, Int.reduceAdd, Int.reduceSub, Int.reduceMul, Int.reduceNeg, Int.reduceEq, Int.reduceNe, Int.reduceLT, Int.reduceLE, Int.reduceToNat, Int.reduceTDiv, Int.reduceTMod, b2i_em, h2, e1, e60, h255, hc, w, c3, mU_n, mU_e]
              refine hfin _ ?_ ?_ ?_
              · exact f59_u2 f59_r (by decide) (by decide)
              · simp (disch := first | decide | omega) only [upC_e, upC_n, mU_e, mU_n]
                omega
              · simp (disch := first | decide | omega) only [upC_e, upC_n, mU_e, mU_n]
                exact h3
          · exact absurd ⟨c, c2, c3⟩ g
        · rcases hs with ⟨g, -⟩ | ⟨-, q1, q2⟩
          · exact absurd g.2.2 c3
          · have hr := hR _ (f59_u f59_r (i := 2) (v := (a : Int) + 1) (by decide)) (by simp (disch := first | decide | omega) only [upC_e, upC_n, mU_e, mU_n]; omega) (by simp (disch := first | decide | omega) only [upC_e, upC_n, mU_e, mU_n]; exact h3)
            rw [q2] at hr
            rcases hj with rfl | rfl
            · simp (disch := first | decide | omega) only [b86, w86_0, w86_2, w86_3, w86_6, w86_7, w86_10, w86_11, w86_14, w86_15, w86_16, w86_19, w86_20, w86_21, w86_22, w86_25, w86_26, w86_27, w86_30, w86_31, w86_34, w86_36, w86_37, w86_39, w86_40, w86_41, w86_42, w86_43, w86_45, w86_48, w86_49, w86_51, w86_54, w86_55, w86_58, w86_59, w86_62, w86_65, w86_66, w86_69, w86_70, w86_73, w86_74, w86_76, w86_79, w86_80, w86_81, w86_84, w86_85, w86_86, w86_89, w86_92, w86_93, tc59, tr59_0, ta60, tn60, tc149, tr149_0, xLoad_i, xLoad_l, xLoad_r, xInc_s, xBr_t, xBr_f, xNz_s, xGf_s, xPf_s, xPz_s, xLd_2, xLd_7, xLd_10, xLdb_3, xLdb_5, xLdb_9, xLdl_4, xLdr_6, xSt_2, xStl_4, xStb_3, xStb_5, xLen_s, xLen_10, xCpy_s, xIv_s, xMx_s, mCont_s, mCont_n, w32_s, w64_s, upC_e, upC_n, upC_u, upC_c, mEn_c, mEn_n, mcw_i, mcw_l, mcw_r, mcat_n, mcat_i, mcat_l, mcat_r, xlong_i, xlong_l, xlong_r, xlong_n, s1_at, s2_at, ↓reduceIte, reduceCtorEq, and_self, true_and, and_true, false_and, and_false, Bool.false_eq_true, ne_eq, not_true_eq_false, not_false_eq_true, or_true, true_or, or_false, false_or, or_self, Int.tmod_eq_emod_of_nonneg, Int.tdiv_eq_ediv_of_nonneg, Classical.not_not, xSw, rOK, b2i_ok, b2i_0, b2i_1, Nat.reduceAdd, Nat.reduceSub, Nat.reduceMul, Nat.reduceEqDiff, Nat.reduceLeDiff, Nat.reduceLT, Int.reduceAdd, Int.reduceSub, Int.reduceMul, Int.reduceNeg, Int.reduceEq, Int.reduceNe, Int.reduceLT, Int.reduceLE, Int.reduceToNat, Int.reduceTDiv, Int.reduceTMod, b2i_em, h2, e1, e60, h255, hc, w, c3, mU_n, mU_e]
              exact hr
            · simp (disch := first | decide | omega) only [b86, w86_0, w86_2, w86_3, w86_6, w86_7, w86_10, w86_11, w86_14, w86_15, w86_16, w86_19, w86_20, w86_21, w86_22, w86_25, w86_26, w86_27, w86_30, w86_31, w86_34, w86_36, w86_37, w86_39, w86_40, w86_41, w86_42, w86_43, w86_45, w86_48, w86_49, w86_51, w86_54, w86_55, w86_58, w86_59, w86_62, w86_65, w86_66, w86_69, w86_70, w86_73, w86_74, w86_76, w86_79, w86_80, w86_81, w86_84, w86_85, w86_86, w86_89, w86_92, w86_93, tc59, tr59_0, ta60, tn60, tc149, tr149_0, xLoad_i, xLoad_l, xLoad_r, xInc_s, xBr_t, xBr_f, xNz_s, xGf_s, xPf_s, xPz_s, xLd_2, xLd_7, xLd_10, xLdb_3, xLdb_5, xLdb_9, xLdl_4, xLdr_6, xSt_2, xStl_4, xStb_3, xStb_5, xLen_s, xLen_10, xCpy_s, xIv_s, xMx_s, mCont_s, mCont_n, w32_s, w64_s, upC_e, upC_n, upC_u, upC_c, mEn_c, mEn_n, mcw_i, mcw_l, mcw_r, mcat_n, mcat_i, mcat_l, mcat_r, xlong_i, xlong_l, xlong_r, xlong_n, s1_at, s2_at, ↓reduceIte, reduceCtorEq, and_self, true_and, and_true, false_and, and_false, Bool.false_eq_true, ne_eq, not_true_eq_false, not_false_eq_true, or_true, true_or, or_false, false_or, or_self, Int.tmod_eq_emod_of_nonneg, Int.tdiv_eq_ediv_of_nonneg, Classical.not_not, xSw, rOK, b2i_ok, b2i_0, b2i_1, Nat.reduceAdd, Nat.reduceSub, Nat.reduceMul, Nat.reduceEqDiff, Nat.reduceLeDiff, Nat.reduceLT, Int.reduceAdd, Int.reduceSub, Int.reduceMul, Int.reduceNeg, Int.reduceEq, Int.reduceNe, Int.reduceLT, Int.reduceLE, Int.reduceToNat, Int.reduceTDiv, Int.reduceTMod, b2i_em, h2, e1, e60, h255, hc, w, c3, mU_n, mU_e]
              exact hr
      · rcases hs with ⟨g, -⟩ | ⟨-, q1, q2⟩
        · exact absurd g.2.1 c2
        · have hr := hR _ (f59_u f59_r (i := 2) (v := (a : Int) + 1) (by decide)) (by simp (disch := first | decide | omega) only [upC_e, upC_n, mU_e, mU_n]; omega) (by simp (disch := first | decide | omega) only [upC_e, upC_n, mU_e, mU_n]; exact h3)
          rw [q2] at hr
          rcases hj with rfl | rfl
          · simp (disch := first | decide | omega) only [b86, w86_0, w86_2, w86_3, w86_6, w86_7, w86_10, w86_11, w86_14, w86_15, w86_16, w86_19, w86_20, w86_21, w86_22, w86_25, w86_26, w86_27, w86_30, w86_31, w86_34, w86_36, w86_37, w86_39, w86_40, w86_41, w86_42, w86_43, w86_45, w86_48, w86_49, w86_51, w86_54, w86_55, w86_58, w86_59, w86_62, w86_65, w86_66, w86_69, w86_70, w86_73, w86_74, w86_76, w86_79, w86_80, w86_81, w86_84, w86_85, w86_86, w86_89, w86_92, w86_93, tc59, tr59_0, ta60, tn60, tc149, tr149_0, xLoad_i, xLoad_l, xLoad_r, xInc_s, xBr_t, xBr_f, xNz_s, xGf_s, xPf_s, xPz_s, xLd_2, xLd_7, xLd_10, xLdb_3, xLdb_5, xLdb_9, xLdl_4, xLdr_6, xSt_2, xStl_4, xStb_3, xStb_5, xLen_s, xLen_10, xCpy_s, xIv_s, xMx_s, mCont_s, mCont_n, w32_s, w64_s, upC_e, upC_n, upC_u, upC_c, mEn_c, mEn_n, mcw_i, mcw_l, mcw_r, mcat_n, mcat_i, mcat_l, mcat_r, xlong_i, xlong_l, xlong_r, xlong_n, s1_at, s2_at, ↓reduceIte, reduceCtorEq, and_self, true_and, and_true, false_and, and_false, Bool.false_eq_true, ne_eq, not_true_eq_false, not_false_eq_true, or_true, true_or, or_false, false_or, or_self, Int.tmod_eq_emod_of_nonneg, Int.tdiv_eq_ediv_of_nonneg, Classical.not_not, xSw, rOK, b2i_ok, b2i_0, b2i_1, Nat.reduceAdd, Nat.reduceSub, Nat.reduceMul, Nat.reduceEqDiff, Nat.reduceLeDiff, Nat.reduceLT, Int.reduceAdd, Int.reduceSub, Int.reduceMul, Int.reduceNeg, Int.reduceEq, Int.reduceNe, Int.reduceLT, Int.reduceLE, Int.reduceToNat, Int.reduceTDiv, Int.reduceTMod, b2i_em, h2, e1, e60, h255, hc, w, mU_n, mU_e]
            exact hr
          · simp (disch := first | decide | omega) only [b86, w86_0, w86_2, w86_3, w86_6, w86_7, w86_10, w86_11, w86_14, w86_15, w86_16, w86_19, w86_20, w86_21, w86_22, w86_25, w86_26, w86_27, w86_30, w86_31, w86_34, w86_36, w86_37, w86_39, w86_40, w86_41, w86_42, w86_43, w86_45, w86_48, w86_49, w86_51, w86_54, w86_55, w86_58, w86_59, w86_62, w86_65, w86_66, w86_69, w86_70, w86_73, w86_74, w86_76, w86_79, w86_80, w86_81, w86_84, w86_85, w86_86, w86_89, w86_92, w86_93, tc59, tr59_0, ta60, tn60, tc149, tr149_0, xLoad_i, xLoad_l, xLoad_r, xInc_s, xBr_t, xBr_f, xNz_s, xGf_s, xPf_s, xPz_s, xLd_2, xLd_7, xLd_10, xLdb_3, xLdb_5, xLdb_9, xLdl_4, xLdr_6, xSt_2, xStl_4, xStb_3, xStb_5, xLen_s, xLen_10, xCpy_s, xIv_s, xMx_s, mCont_s, mCont_n, w32_s, w64_s, upC_e, upC_n, upC_u, upC_c, mEn_c, mEn_n, mcw_i, mcw_l, mcw_r, mcat_n, mcat_i, mcat_l, mcat_r, xlong_i, xlong_l, xlong_r, xlong_n, s1_at, s2_at, ↓reduceIte, reduceCtorEq, and_self, true_and, and_true, false_and, and_false, Bool.false_eq_true, ne_eq, not_true_eq_false, not_false_eq_true, or_true, true_or, or_false, false_or, or_self, Int.tmod_eq_emod_of_nonneg, Int.tdiv_eq_ediv_of_nonneg, Classical.not_not, xSw, rOK, b2i_ok, b2i_0, b2i_1, Nat.reduceAdd, Nat.reduceSub, Nat.reduceMul, Nat.reduceEqDiff, Nat.reduceLeDiff, Nat.reduceLT, Int.reduceAdd, Int.reduceSub, Int.reduceMul, Int.reduceNeg, Int.reduceEq, Int.reduceNe, Int.reduceLT, Int.reduceLE, Int.reduceToNat, Int.reduceTDiv, Int.reduceTMod, b2i_em, h2, e1, e60, h255, hc, w, mU_n, mU_e]
            exact hr
    · have hj : j ≠ 0 ∧ j ≠ 2 := by
        constructor
        · rintro rfl
          exact c (Or.inl (by rw [← j4]; decide +kernel))
        · rintro rfl
          exact c (Or.inr (by rw [← j4]; decide +kernel))
      rcases hs with ⟨g, -⟩ | ⟨-, q1, q2⟩
      · exact absurd g.1 c
      · have hr := hR _ (f59_u f59_r (i := 2) (v := (a : Int) + 1) (by decide)) (by simp (disch := first | decide | omega) only [upC_e, upC_n, mU_e, mU_n]; omega) (by simp (disch := first | decide | omega) only [upC_e, upC_n, mU_e, mU_n]; exact h3)
        rw [q2] at hr
        simp (disch := first | decide | omega) only [b86, w86_0, w86_2, w86_3, w86_6, w86_7, w86_10, w86_11, w86_14, w86_15, w86_16, w86_19, w86_20, w86_21, w86_22, w86_25, w86_26, w86_27, w86_30, w86_31, w86_34, w86_36, w86_37, w86_39, w86_40, w86_41, w86_42, w86_43, w86_45, w86_48, w86_49, w86_51, w86_54, w86_55, w86_58, w86_59, w86_62, w86_65, w86_66, w86_69, w86_70, w86_73, w86_74, w86_76, w86_79, w86_80, w86_81, w86_84, w86_85, w86_86, w86_89, w86_92, w86_93, tc59, tr59_0, ta60, tn60, tc149, tr149_0, xLoad_i, xLoad_l, xLoad_r, xInc_s, xBr_t, xBr_f, xNz_s, xGf_s, xPf_s, xPz_s, xLd_2, xLd_7, xLd_10, xLdb_3, xLdb_5, xLdb_9, xLdl_4, xLdr_6, xSt_2, xStl_4, xStb_3, xStb_5, xLen_s, xLen_10, xCpy_s, xIv_s, xMx_s, mCont_s, mCont_n, w32_s, w64_s, upC_e, upC_n, upC_u, upC_c, mEn_c, mEn_n, mcw_i, mcw_l, mcw_r, mcat_n, mcat_i, mcat_l, mcat_r, xlong_i, xlong_l, xlong_r, xlong_n, s1_at, s2_at, ↓reduceIte, reduceCtorEq, and_self, true_and, and_true, false_and, and_false, Bool.false_eq_true, ne_eq, not_true_eq_false, not_false_eq_true, or_true, true_or, or_false, false_or, or_self, Int.tmod_eq_emod_of_nonneg, Int.tdiv_eq_ediv_of_nonneg, Classical.not_not, xSw, rOK, b2i_ok, b2i_0, b2i_1, Nat.reduceAdd, Nat.reduceSub, Nat.reduceMul, Nat.reduceEqDiff, Nat.reduceLeDiff, Nat.reduceLT, Int.reduceAdd, Int.reduceSub, Int.reduceMul, Int.reduceNeg, Int.reduceEq, Int.reduceNe, Int.reduceLT, Int.reduceLE, Int.reduceToNat, Int.reduceTDiv, Int.reduceTMod, b2i_em, h2, e1, e60, h255, hc, w, mU_n, mU_e]
        exact hr
  · have w := fun (d : Nat) (K : mQ) => c_indexOf (d := d) (M := M) (K := K) (x := f a % 256) (z := -1) hk.2.2.1 (by omega) (fun d K => j_ioc0 (fun i hi => by rw [hib, hk.2.2.2]; exact j2 i hi))
    have c : ¬ (f a = 60 ∨ f a = 62) := by
      rintro (e | e) <;> rw [e] at j1 <;> exact absurd j1 (by decide +kernel)
    rcases hs with ⟨g, -⟩ | ⟨-, q1, q2⟩
    · exact absurd g.1 c
    · have hr := hR _ (f59_u f59_r (i := 2) (v := (a : Int) + 1) (by decide)) (by simp (disch := first | decide | omega) only [upC_e, upC_n, mU_e, mU_n]; omega) (by simp (disch := first | decide | omega) only [upC_e, upC_n, mU_e, mU_n]; exact h3)
      rw [q2, j1] at hr
      simp (disch := first | decide | omega) only [b86, w86_0, w86_2, w86_3, w86_6, w86_7, w86_10, w86_11, w86_14, w86_15, w86_16, w86_19, w86_20, w86_21, w86_22, w86_25, w86_26, w86_27, w86_30, w86_31, w86_34, w86_36, w86_37, w86_39, w86_40, w86_41, w86_42, w86_43, w86_45, w86_48, w86_49, w86_51, w86_54, w86_55, w86_58, w86_59, w86_62, w86_65, w86_66, w86_69, w86_70, w86_73, w86_74, w86_76, w86_79, w86_80, w86_81, w86_84, w86_85, w86_86, w86_89, w86_92, w86_93, tc59, tr59_0, ta60, tn60, tc149, tr149_0, xLoad_i, xLoad_l, xLoad_r, xInc_s, xBr_t, xBr_f, xNz_s, xGf_s, xPf_s, xPz_s, xLd_2, xLd_7, xLd_10, xLdb_3, xLdb_5, xLdb_9, xLdl_4, xLdr_6, xSt_2, xStl_4, xStb_3, xStb_5, xLen_s, xLen_10, xCpy_s, xIv_s, xMx_s, mCont_s, mCont_n, w32_s, w64_s, upC_e, upC_n, upC_u, upC_c, mEn_c, mEn_n, mcw_i, mcw_l, mcw_r, mcat_n, mcat_i, mcat_l, mcat_r, xlong_i, xlong_l, xlong_r, xlong_n, s1_at, s2_at, ↓reduceIte, reduceCtorEq, and_self, true_and, and_true, false_and, and_false, Bool.false_eq_true, ne_eq, not_true_eq_false, not_false_eq_true, or_true, true_or, or_false, false_or, or_self, Int.tmod_eq_emod_of_nonneg, Int.tdiv_eq_ediv_of_nonneg, Classical.not_not, xSw, rOK, b2i_ok, b2i_0, b2i_1, Nat.reduceAdd, Nat.reduceSub, Nat.reduceMul, Nat.reduceEqDiff, Nat.reduceLeDiff, Nat.reduceLT, Int.reduceAdd, Int.reduceSub, Int.reduceMul, Int.reduceNeg, Int.reduceEq, Int.reduceNe, Int.reduceLT, Int.reduceLE, Int.reduceToNat, Int.reduceTDiv, Int.reduceTMod, b2i_em, h2, e1, e60, h255, hc, w, mU_n, mU_e]
      exact hr
set_option maxHeartbeats 1000000 in
theorem c_nextTok0 {d n p a : Nat} {M : mM} {K : mQ} {f : Int → Int} (hT : TC M f n) (h2 : M 59 2 = p) (hpa : p ≤ a ∧ a ≤ n) (hb : ∀ j : Nat, p ≤ j → j < a → isBl (f j)) (hn : a < n → ¬ isBl (f a)) (hR : ∀ M' lv, f59 M M' → M' 59 2 = a → M' 59 3 = a → lv 0 = some (vr 59) → rn (d + 1) 80 K 60 lv [] M') : mCall (d + 2) 80 [vr 59] M K := by
  have n3 := hT.2.1
  simp (disch := first | decide | omega) only [b80, w80_1, w80_4, w80_5, w80_8, w80_11, w80_12, w80_15, w80_16, w80_19, w80_20, w80_22, w80_25, w80_26, w80_29, w80_30, w80_33, w80_34, w80_36, w80_39, w80_40, w80_41, w80_44, w80_45, w80_46, w80_49, w80_52, w80_53, w80_54, w80_57, w80_61, w80_64, w80_65, w80_68, w80_71, w80_73, w80_74, w80_75, w80_76, w80_79, w80_82, w80_85, w80_86, w80_89, w80_90, w80_91, w80_92, w80_95, w80_98, w80_101, w80_102, w80_105, w80_106, w80_107, w80_110, tc59, tr59_0, ta60, tn60, xLoad_i, xLoad_l, xLoad_r, xInc_s, xBr_t, xBr_f, xNz_s, xGf_s, xPf_s, xPz_s, xLd_2, xLd_7, xLd_10, xLdb_3, xLdb_5, xLdb_9, xLdl_4, xLdr_6, xSt_2, xStl_4, xStb_3, xStb_5, xLen_s, xLen_10, xCpy_s, xIv_s, xMx_s, mCont_s, mCont_n, w32_s, w64_s, upC_e, upC_n, upC_u, upC_c, mEn_c, mEn_n, mcw_i, mcw_l, mcw_r, mcat_n, mcat_i, mcat_l, mcat_r, xlong_i, xlong_l, xlong_r, xlong_n, s1_at, s2_at, ↓reduceIte, reduceCtorEq, and_self, true_and, and_true, false_and, and_false, Bool.false_eq_true, ne_eq, not_true_eq_false, not_false_eq_true, or_true, true_or, or_false, false_or, or_self, Int.tmod_eq_emod_of_nonneg, Int.tdiv_eq_ediv_of_nonneg, Classical.not_not, xSw, rOK, b2i_ok, b2i_0, b2i_1, Nat.reduceAdd, Nat.reduceSub, Nat.reduceMul, Nat.reduceEqDiff, Nat.reduceLeDiff, Nat.reduceLT, Int.reduceAdd, Int.reduceSub, Int.reduceMul, Int.reduceNeg, Int.reduceEq, Int.reduceNe, Int.reduceLT, Int.reduceLE, Int.reduceToNat, Int.reduceTDiv, Int.reduceTMod, b2i_em]
  refine loopL (P := fun j lv M' => f59 M M' ∧ M' 59 2 = ((p + j : Nat) : Int) ∧ lv 0 = some (vr 59)) (G := fun lv M' => rn (d + 1) 80 K 0 lv [] M') (a - p) 0 (Nat.zero_le _) _ _ ⟨f59_r, h2, ?_⟩ (fun j hj ih lv M' hI => ?_) (fun lv M' hI => ?_)
  any_goals (simp [s1_at, s2_at, mEn_c, mcw_r, mcw_i, mcw_l, xlong_i, xlong_r, xlong_l, xlong_n]; done)
  · obtain ⟨hf, e2, g0⟩ := hI
    have hT' := TC_c hT hf
    have e1 := hT'.1
    have hbj := hb (p + j) (by omega) (by omega)
    rw [← hT'.2.2.1] at hbj
    rw [w80_0]
    rcases hbj with hbj | hbj
    · simp (disch := first | decide | omega) only [b80, w80_1, w80_4, w80_5, w80_8, w80_11, w80_12, w80_15, w80_16, w80_19, w80_20, w80_22, w80_25, w80_26, w80_29, w80_30, w80_33, w80_34, w80_36, w80_39, w80_40, w80_41, w80_44, w80_45, w80_46, w80_49, w80_52, w80_53, w80_54, w80_57, w80_61, w80_64, w80_65, w80_68, w80_71, w80_73, w80_74, w80_75, w80_76, w80_79, w80_82, w80_85, w80_86, w80_89, w80_90, w80_91, w80_92, w80_95, w80_98, w80_101, w80_102, w80_105, w80_106, w80_107, w80_110, tc59, tr59_0, ta60, tn60, xLoad_i, xLoad_l, xLoad_r, xInc_s, xBr_t, xBr_f, xNz_s, xGf_s, xPf_s, xPz_s, xLd_2, xLd_7, xLd_10, xLdb_3, xLdb_5, xLdb_9, xLdl_4, xLdr_6, xSt_2, xStl_4, xStb_3, xStb_5, xLen_s, xLen_10, xCpy_s, xIv_s, xMx_s, mCont_s, mCont_n, w32_s, w64_s, upC_e, upC_n, upC_u, upC_c, mEn_c, mEn_n, mcw_i, mcw_l, mcw_r, mcat_n, mcat_i, mcat_l, mcat_r, xlong_i, xlong_l, xlong_r, xlong_n, s1_at, s2_at, ↓reduceIte, reduceCtorEq, and_self, true_and, and_true, false_and, and_false, Bool.false_eq_true, ne_eq, not_true_eq_false, not_false_eq_true, or_true, true_or, or_false, false_or, or_self, Int.tmod_eq_emod_of_nonneg, Int.tdiv_eq_ediv_of_nonneg, Classical.not_not, xSw, rOK, b2i_ok, b2i_0, b2i_1, Nat.reduceAdd, Nat.reduceSub, Nat.reduceMul, Nat.reduceEqDiff, Nat.reduceLeDiff, Nat.reduceLT, Int.reduceAdd, Int.reduceSub, Int.reduceMul, Int.reduceNeg, Int.reduceEq, Int.reduceNe, Int.reduceLT, Int.reduceLE, Int.reduceToNat, Int.reduceTDiv, Int.reduceTMod, b2i_em, g0, e1, e2, hbj]
      refine ih _ _ ⟨f59_u hf (by decide), by rw [upC_e, mU_e]; omega, ?_⟩
      simp [s1_at, s2_at, mEn_c, mcw_r, mcw_i, mcw_l, xlong_i, xlong_r, xlong_l, xlong_n, g0]
    · simp (disch := first | decide | omega) only [b80, w80_1, w80_4, w80_5, w80_8, w80_11, w80_12, w80_15, w80_16, w80_19, w80_20, w80_22, w80_25, w80_26, w80_29, w80_30, w80_33, w80_34, w80_36, w80_39, w80_40, w80_41, w80_44, w80_45, w80_46, w80_49, w80_52, w80_53, w80_54, w80_57, w80_61, w80_64, w80_65, w80_68, w80_71, w80_73, w80_74, w80_75, w80_76, w80_79, w80_82, w80_85, w80_86, w80_89, w80_90, w80_91, w80_92, w80_95, w80_98, w80_101, w80_102, w80_105, w80_106, w80_107, w80_110, tc59, tr59_0, ta60, tn60, xLoad_i, xLoad_l, xLoad_r, xInc_s, xBr_t, xBr_f, xNz_s, xGf_s, xPf_s, xPz_s, xLd_2, xLd_7, xLd_10, xLdb_3, xLdb_5, xLdb_9, xLdl_4, xLdr_6, xSt_2, xStl_4, xStb_3, xStb_5, xLen_s, xLen_10, xCpy_s, xIv_s, xMx_s, mCont_s, mCont_n, w32_s, w64_s, upC_e, upC_n, upC_u, upC_c, mEn_c, mEn_n, mcw_i, mcw_l, mcw_r, mcat_n, mcat_i, mcat_l, mcat_r, xlong_i, xlong_l, xlong_r, xlong_n, s1_at, s2_at, ↓reduceIte, reduceCtorEq, and_self, true_and, and_true, false_and, and_false, Bool.false_eq_true, ne_eq, not_true_eq_false, not_false_eq_true, or_true, true_or, or_false, false_or, or_self, Int.tmod_eq_emod_of_nonneg, Int.tdiv_eq_ediv_of_nonneg, Classical.not_not, xSw, rOK, b2i_ok, b2i_0, b2i_1, Nat.reduceAdd, Nat.reduceSub, Nat.reduceMul, Nat.reduceEqDiff, Nat.reduceLeDiff, Nat.reduceLT, Int.reduceAdd, Int.reduceSub, Int.reduceMul, Int.reduceNeg, Int.reduceEq, Int.reduceNe, Int.reduceLT, Int.reduceLE, Int.reduceToNat, Int.reduceTDiv, Int.reduceTMod, b2i_em, g0, e1, e2, hbj]
      refine ih _ _ ⟨f59_u hf (by decide), by rw [upC_e, mU_e]; omega, ?_⟩
      simp [s1_at, s2_at, mEn_c, mcw_r, mcw_i, mcw_l, xlong_i, xlong_r, xlong_l, xlong_n, g0]
  · obtain ⟨hf, e2, g0⟩ := hI
    have hT' := TC_c hT hf
    have e1 := hT'.1
    rw [show p + (a - p) = a by omega] at e2
    have hfin : rn (d + 1) 80 K 52 lv [] M' := by
      simp (disch := first | decide | omega) only [b80, w80_1, w80_4, w80_5, w80_8, w80_11, w80_12, w80_15, w80_16, w80_19, w80_20, w80_22, w80_25, w80_26, w80_29, w80_30, w80_33, w80_34, w80_36, w80_39, w80_40, w80_41, w80_44, w80_45, w80_46, w80_49, w80_52, w80_53, w80_54, w80_57, w80_61, w80_64, w80_65, w80_68, w80_71, w80_73, w80_74, w80_75, w80_76, w80_79, w80_82, w80_85, w80_86, w80_89, w80_90, w80_91, w80_92, w80_95, w80_98, w80_101, w80_102, w80_105, w80_106, w80_107, w80_110, tc59, tr59_0, ta60, tn60, xLoad_i, xLoad_l, xLoad_r, xInc_s, xBr_t, xBr_f, xNz_s, xGf_s, xPf_s, xPz_s, xLd_2, xLd_7, xLd_10, xLdb_3, xLdb_5, xLdb_9, xLdl_4, xLdr_6, xSt_2, xStl_4, xStb_3, xStb_5, xLen_s, xLen_10, xCpy_s, xIv_s, xMx_s, mCont_s, mCont_n, w32_s, w64_s, upC_e, upC_n, upC_u, upC_c, mEn_c, mEn_n, mcw_i, mcw_l, mcw_r, mcat_n, mcat_i, mcat_l, mcat_r, xlong_i, xlong_l, xlong_r, xlong_n, s1_at, s2_at, ↓reduceIte, reduceCtorEq, and_self, true_and, and_true, false_and, and_false, Bool.false_eq_true, ne_eq, not_true_eq_false, not_false_eq_true, or_true, true_or, or_false, false_or, or_self, Int.tmod_eq_emod_of_nonneg, Int.tdiv_eq_ediv_of_nonneg, Classical.not_not, xSw, rOK, b2i_ok, b2i_0, b2i_1, Nat.reduceAdd, Nat.reduceSub, Nat.reduceMul, Nat.reduceEqDiff, Nat.reduceLeDiff, Nat.reduceLT, Int.reduceAdd, Int.reduceSub, Int.reduceMul, Int.reduceNeg, Int.reduceEq, Int.reduceNe, Int.reduceLT, Int.reduceLE, Int.reduceToNat, Int.reduceTDiv, Int.reduceTMod, b2i_em, g0, e2]
      refine hR _ _ (f59_u hf (by decide)) (by simp (disch := first | decide | omega) only [upC_e, upC_n, mU_e, mU_n]; exact e2) (by simp (disch := first | decide | omega) only [upC_e, upC_n, mU_e, mU_n]) ?_
      simp [s1_at, s2_at, mEn_c, mcw_r, mcw_i, mcw_l, xlong_i, xlong_r, xlong_l, xlong_n, g0]
    rw [w80_0]
    by_cases c : a < n
    · have hna := hn c
      unfold isBl at hna
      rw [← hT'.2.2.1] at hna
      simp (disch := first | decide | omega) only [b80, w80_1, w80_4, w80_5, w80_8, w80_11, w80_12, w80_15, w80_16, w80_19, w80_20, w80_22, w80_25, w80_26, w80_29, w80_30, w80_33, w80_34, w80_36, w80_39, w80_40, w80_41, w80_44, w80_45, w80_46, w80_49, w80_53, w80_54, w80_57, w80_61, w80_64, w80_65, w80_68, w80_71, w80_73, w80_74, w80_75, w80_76, w80_79, w80_82, w80_85, w80_86, w80_89, w80_90, w80_91, w80_92, w80_95, w80_98, w80_101, w80_102, w80_105, w80_106, w80_107, w80_110, tc59, tr59_0, ta60, tn60, xLoad_i, xLoad_l, xLoad_r, xInc_s, xBr_t, xBr_f, xNz_s, xGf_s, xPf_s, xPz_s, xLd_2, xLd_7, xLd_10, xLdb_3, xLdb_5, xLdb_9, xLdl_4, xLdr_6, xSt_2, xStl_4, xStb_3, xStb_5, xLen_s, xLen_10, xCpy_s, xIv_s, xMx_s, mCont_s, mCont_n, w32_s, w64_s, upC_e, upC_n, upC_u, upC_c, mEn_c, mEn_n, mcw_i, mcw_l, mcw_r, mcat_n, mcat_i, mcat_l, mcat_r, xlong_i, xlong_l, xlong_r, xlong_n, s1_at, s2_at, ↓reduceIte, reduceCtorEq, and_self, true_and, and_true, false_and, and_false, Bool.false_eq_true, ne_eq, not_true_eq_false, not_false_eq_true, or_true, true_or, or_false, false_or, or_self, Int.tmod_eq_emod_of_nonneg, Int.tdiv_eq_ediv_of_nonneg, Classical.not_not, xSw, rOK, b2i_ok, b2i_0, b2i_1, Nat.reduceAdd, Nat.reduceSub, Nat.reduceMul, Nat.reduceEqDiff, Nat.reduceLeDiff, Nat.reduceLT, Int.reduceAdd, Int.reduceSub, Int.reduceMul, Int.reduceNeg, Int.reduceEq, Int.reduceNe, Int.reduceLT, Int.reduceLE, Int.reduceToNat, Int.reduceTDiv, Int.reduceTMod, b2i_em, g0, e1, e2]
      exact hfin
    · simp (disch := first | decide | omega) only [b80, w80_1, w80_4, w80_5, w80_8, w80_11, w80_12, w80_15, w80_16, w80_19, w80_20, w80_22, w80_25, w80_26, w80_29, w80_30, w80_33, w80_34, w80_36, w80_39, w80_40, w80_41, w80_44, w80_45, w80_46, w80_49, w80_53, w80_54, w80_57, w80_61, w80_64, w80_65, w80_68, w80_71, w80_73, w80_74, w80_75, w80_76, w80_79, w80_82, w80_85, w80_86, w80_89, w80_90, w80_91, w80_92, w80_95, w80_98, w80_101, w80_102, w80_105, w80_106, w80_107, w80_110, tc59, tr59_0, ta60, tn60, xLoad_i, xLoad_l, xLoad_r, xInc_s, xBr_t, xBr_f, xNz_s, xGf_s, xPf_s, xPz_s, xLd_2, xLd_7, xLd_10, xLdb_3, xLdb_5, xLdb_9, xLdl_4, xLdr_6, xSt_2, xStl_4, xStb_3, xStb_5, xLen_s, xLen_10, xCpy_s, xIv_s, xMx_s, mCont_s, mCont_n, w32_s, w64_s, upC_e, upC_n, upC_u, upC_c, mEn_c, mEn_n, mcw_i, mcw_l, mcw_r, mcat_n, mcat_i, mcat_l, mcat_r, xlong_i, xlong_l, xlong_r, xlong_n, s1_at, s2_at, ↓reduceIte, reduceCtorEq, and_self, true_and, and_true, false_and, and_false, Bool.false_eq_true, ne_eq, not_true_eq_false, not_false_eq_true, or_true, true_or, or_false, false_or, or_self, Int.tmod_eq_emod_of_nonneg, Int.tdiv_eq_ediv_of_nonneg, Classical.not_not, xSw, rOK, b2i_ok, b2i_0, b2i_1, Nat.reduceAdd, Nat.reduceSub, Nat.reduceMul, Nat.reduceEqDiff, Nat.reduceLeDiff, Nat.reduceLT, Int.reduceAdd, Int.reduceSub, Int.reduceMul, Int.reduceNeg, Int.reduceEq, Int.reduceNe, Int.reduceLT, Int.reduceLE, Int.reduceToNat, Int.reduceTDiv, Int.reduceTMod, b2i_em, g0, e1, e2]
      exact hfin
theorem c_nextToken {d n p a q : Nat} {M : mM} {K : mQ} {f : Int → Int} {k v : Int} (hT : TC M f n) (hk : KC M) (h2 : M 59 2 = p) (ht : TK f n p k v a q) (hR : ∀ M', f59 M M' → M' 59 2 = q → M' 59 3 = a → (k = 42 → M' 59 4 = v) → K (some (vi k)) M') : mCall (d + 8) 80 [vr 59] M K := by
  obtain ⟨⟨t1, t2, t3⟩, t4, t5, t6⟩ := ht
  have n3 := hT.2.1
  refine c_nextTok0 hT h2 ⟨t1, by omega⟩ t4 (fun _ => t5) (fun M1 lv f1 e2 e3 g0 => ?_)
  have hT1 := TC_c hT f1
  have hk1 := KC_f hk f1
  have e1 := hT1.1
  have e60 := hT1.2.2.1
  rcases t6 with ⟨u1, u2, u3, u4⟩ | ⟨u0, u1, u2, u3, u4, u5⟩ | ⟨u0, u1, u2⟩
  · have u1' := u1
    rw [← e60] at u1'
    have w := fun (d : Nat) (K : mQ) => c_isLt1 (d := d) (M := M1) (K := K) (j := (a : Int)) (by omega) u1'
    have hk42 : k ≠ 42 := by
      rcases u4 with ⟨-, w, w1, w2, -⟩ | ⟨g, -⟩ <;> omega
    simp (disch := first | decide | omega) only [b80, w80_0, w80_1, w80_4, w80_5, w80_8, w80_11, w80_12, w80_15, w80_16, w80_19, w80_20, w80_22, w80_25, w80_26, w80_29, w80_30, w80_33, w80_34, w80_36, w80_39, w80_40, w80_41, w80_44, w80_45, w80_46, w80_49, w80_52, w80_53, w80_54, w80_57, w80_60, w80_61, w80_64, w80_65, w80_68, w80_71, w80_73, w80_74, w80_75, w80_76, w80_79, w80_82, w80_85, w80_86, w80_89, w80_90, w80_91, w80_92, w80_95, w80_98, w80_101, w80_102, w80_105, w80_106, w80_107, w80_110, tc59, tr59_0, ta60, tn60, xLoad_i, xLoad_l, xLoad_r, xInc_s, xBr_t, xBr_f, xNz_s, xGf_s, xPf_s, xPz_s, xLd_2, xLd_7, xLd_10, xLdb_3, xLdb_5, xLdb_9, xLdl_4, xLdr_6, xSt_2, xStl_4, xStb_3, xStb_5, xLen_s, xLen_10, xCpy_s, xIv_s, xMx_s, mCont_s, mCont_n, w32_s, w64_s, upC_e, upC_n, upC_u, upC_c, mEn_c, mEn_n, mcw_i, mcw_l, mcw_r, mcat_n, mcat_i, mcat_l, mcat_r, xlong_i, xlong_l, xlong_r, xlong_n, s1_at, s2_at, ↓reduceIte, reduceCtorEq, and_self, true_and, and_true, false_and, and_false, Bool.false_eq_true, ne_eq, not_true_eq_false, not_false_eq_true, or_true, true_or, or_false, false_or, or_self, Int.tmod_eq_emod_of_nonneg, Int.tdiv_eq_ediv_of_nonneg, Classical.not_not, xSw, rOK, b2i_ok, b2i_0, b2i_1, Nat.reduceAdd, Nat.reduceSub, Nat.reduceMul, Nat.reduceEqDiff, Nat.reduceLeDiff, Nat.reduceLT, Int.reduceAdd, Int.reduceSub, Int.reduceMul, Int.reduceNeg, Int.reduceEq, Int.reduceNe, Int.reduceLT, Int.reduceLE, Int.reduceToNat, Int.reduceTDiv, Int.reduceTMod, b2i_em, g0, e1, e2, w]
    refine c_nextWord hT1 hk1 e2 e3 ⟨t2, t3⟩ u2 u3 u4 (fun M2 f2 a2 a3 => ?_)
    have hr := hR M2 (f59_t f1 f2) a2 a3 (fun e => absurd e hk42)
    simp (disch := first | decide | omega) only [b80, w80_0, w80_1, w80_4, w80_5, w80_8, w80_11, w80_12, w80_15, w80_16, w80_19, w80_20, w80_22, w80_25, w80_26, w80_29, w80_30, w80_33, w80_34, w80_36, w80_39, w80_40, w80_41, w80_44, w80_45, w80_46, w80_49, w80_52, w80_53, w80_54, w80_57, w80_60, w80_61, w80_64, w80_65, w80_68, w80_71, w80_73, w80_74, w80_75, w80_76, w80_79, w80_82, w80_85, w80_86, w80_89, w80_90, w80_91, w80_92, w80_95, w80_98, w80_101, w80_102, w80_105, w80_106, w80_107, w80_110, tc59, tr59_0, ta60, tn60, xLoad_i, xLoad_l, xLoad_r, xInc_s, xBr_t, xBr_f, xNz_s, xGf_s, xPf_s, xPz_s, xLd_2, xLd_7, xLd_10, xLdb_3, xLdb_5, xLdb_9, xLdl_4, xLdr_6, xSt_2, xStl_4, xStb_3, xStb_5, xLen_s, xLen_10, xCpy_s, xIv_s, xMx_s, mCont_s, mCont_n, w32_s, w64_s, upC_e, upC_n, upC_u, upC_c, mEn_c, mEn_n, mcw_i, mcw_l, mcw_r, mcat_n, mcat_i, mcat_l, mcat_r, xlong_i, xlong_l, xlong_r, xlong_n, s1_at, s2_at, ↓reduceIte, reduceCtorEq, and_self, true_and, and_true, false_and, and_false, Bool.false_eq_true, ne_eq, not_true_eq_false, not_false_eq_true, or_true, true_or, or_false, false_or, or_self, Int.tmod_eq_emod_of_nonneg, Int.tdiv_eq_ediv_of_nonneg, Classical.not_not, xSw, rOK, b2i_ok, b2i_0, b2i_1, Nat.reduceAdd, Nat.reduceSub, Nat.reduceMul, Nat.reduceEqDiff, Nat.reduceLeDiff, Nat.reduceLT, Int.reduceAdd, Int.reduceSub, Int.reduceMul, Int.reduceNeg, Int.reduceEq, Int.reduceNe, Int.reduceLT, Int.reduceLE, Int.reduceToNat, Int.reduceTDiv, Int.reduceTMod, b2i_em]
    exact hr
  · rw [← e60] at u0 u1
    have w := fun (d : Nat) (K : mQ) => c_isLt0 (d := d) (M := M1) (K := K) (j := (a : Int)) (by omega) u0
    have w2 := fun (d : Nat) (K : mQ) => c_isDg1 (d := d) (M := M1) (K := K) (j := (a : Int)) (by omega) u1
    simp (disch := first | decide | omega) only [b80, w80_0, w80_1, w80_4, w80_5, w80_8, w80_11, w80_12, w80_15, w80_16, w80_19, w80_20, w80_22, w80_25, w80_26, w80_29, w80_30, w80_33, w80_34, w80_36, w80_39, w80_40, w80_41, w80_44, w80_45, w80_46, w80_49, w80_52, w80_53, w80_54, w80_57, w80_60, w80_61, w80_64, w80_65, w80_68, w80_71, w80_73, w80_74, w80_75, w80_76, w80_79, w80_82, w80_85, w80_86, w80_89, w80_90, w80_91, w80_92, w80_95, w80_98, w80_101, w80_102, w80_105, w80_106, w80_107, w80_110, tc59, tr59_0, ta60, tn60, xLoad_i, xLoad_l, xLoad_r, xInc_s, xBr_t, xBr_f, xNz_s, xGf_s, xPf_s, xPz_s, xLd_2, xLd_7, xLd_10, xLdb_3, xLdb_5, xLdb_9, xLdl_4, xLdr_6, xSt_2, xStl_4, xStb_3, xStb_5, xLen_s, xLen_10, xCpy_s, xIv_s, xMx_s, mCont_s, mCont_n, w32_s, w64_s, upC_e, upC_n, upC_u, upC_c, mEn_c, mEn_n, mcw_i, mcw_l, mcw_r, mcat_n, mcat_i, mcat_l, mcat_r, xlong_i, xlong_l, xlong_r, xlong_n, s1_at, s2_at, ↓reduceIte, reduceCtorEq, and_self, true_and, and_true, false_and, and_false, Bool.false_eq_true, ne_eq, not_true_eq_false, not_false_eq_true, or_true, true_or, or_false, false_or, or_self, Int.tmod_eq_emod_of_nonneg, Int.tdiv_eq_ediv_of_nonneg, Classical.not_not, xSw, rOK, b2i_ok, b2i_0, b2i_1, Nat.reduceAdd, Nat.reduceSub, Nat.reduceMul, Nat.reduceEqDiff, Nat.reduceLeDiff, Nat.reduceLT, Int.reduceAdd, Int.reduceSub, Int.reduceMul, Int.reduceNeg, Int.reduceEq, Int.reduceNe, Int.reduceLT, Int.reduceLE, Int.reduceToNat, Int.reduceTDiv, Int.reduceTMod, b2i_em, g0, e1, e2, w, w2]
    refine c_nextNumber hT1 e2 e3 ⟨t2, t3⟩ u3 u4 (fun M2 f2 a2 a3 a4 => ?_)
    have hr := hR M2 (f59_t f1 f2) a2 a3 (fun _ => by rw [a4, u5])
    rw [u2] at hr
    simp (disch := first | decide | omega) only [b80, w80_0, w80_1, w80_4, w80_5, w80_8, w80_11, w80_12, w80_15, w80_16, w80_19, w80_20, w80_22, w80_25, w80_26, w80_29, w80_30, w80_33, w80_34, w80_36, w80_39, w80_40, w80_41, w80_44, w80_45, w80_46, w80_49, w80_52, w80_53, w80_54, w80_57, w80_60, w80_61, w80_64, w80_65, w80_68, w80_71, w80_73, w80_74, w80_75, w80_76, w80_79, w80_82, w80_85, w80_86, w80_89, w80_90, w80_91, w80_92, w80_95, w80_98, w80_101, w80_102, w80_105, w80_106, w80_107, w80_110, tc59, tr59_0, ta60, tn60, xLoad_i, xLoad_l, xLoad_r, xInc_s, xBr_t, xBr_f, xNz_s, xGf_s, xPf_s, xPz_s, xLd_2, xLd_7, xLd_10, xLdb_3, xLdb_5, xLdb_9, xLdl_4, xLdr_6, xSt_2, xStl_4, xStb_3, xStb_5, xLen_s, xLen_10, xCpy_s, xIv_s, xMx_s, mCont_s, mCont_n, w32_s, w64_s, upC_e, upC_n, upC_u, upC_c, mEn_c, mEn_n, mcw_i, mcw_l, mcw_r, mcat_n, mcat_i, mcat_l, mcat_r, xlong_i, xlong_l, xlong_r, xlong_n, s1_at, s2_at, ↓reduceIte, reduceCtorEq, and_self, true_and, and_true, false_and, and_false, Bool.false_eq_true, ne_eq, not_true_eq_false, not_false_eq_true, or_true, true_or, or_false, false_or, or_self, Int.tmod_eq_emod_of_nonneg, Int.tdiv_eq_ediv_of_nonneg, Classical.not_not, xSw, rOK, b2i_ok, b2i_0, b2i_1, Nat.reduceAdd, Nat.reduceSub, Nat.reduceMul, Nat.reduceEqDiff, Nat.reduceLeDiff, Nat.reduceLT, Int.reduceAdd, Int.reduceSub, Int.reduceMul, Int.reduceNeg, Int.reduceEq, Int.reduceNe, Int.reduceLT, Int.reduceLE, Int.reduceToNat, Int.reduceTDiv, Int.reduceTMod, b2i_em]
    exact hr
  · have u0' := u0
    have u1' := u1
    rw [← e60] at u0' u1'
    have w := fun (d : Nat) (K : mQ) => c_isLt0 (d := d) (M := M1) (K := K) (j := (a : Int)) (by omega) u0'
    have w2 := fun (d : Nat) (K : mQ) => c_isDg0 (d := d) (M := M1) (K := K) (j := (a : Int)) (by omega) u1'
    have hk42 : k ≠ 42 := by
      rcases sgK_x (x := f a) (fun e => t5 (Or.inl e)) with ⟨j, j1, j2, j3, j4⟩ | ⟨j1, -⟩
      · have := sgK_j j j1 j2 j3
        rw [j4] at this
        have hj13 : sg2 f n a → j ≤ 2 := fun g => by
          rcases g.1 with e | e
          · rcases Nat.eq_zero_or_pos j with g | g
            · omega
            · have := ct150j j j1 j2 j3 0 g
              rw [j4, e] at this
              exact absurd (by decide +kernel) this
          · rcases Nat.lt_or_ge 2 j with g | g
            · have := ct150j j j1 j2 j3 2 g
              rw [j4, e] at this
              exact absurd (by decide +kernel) this
            · exact g
        rcases u2 with ⟨g, -, g2⟩ | ⟨-, -, g2⟩
        · have := hj13 g
          omega
        · omega
      · rcases u2 with ⟨g, -, g2⟩ | ⟨-, -, g2⟩ <;> omega
    simp (disch := first | decide | omega) only [b80, w80_0, w80_1, w80_4, w80_5, w80_8, w80_11, w80_12, w80_15, w80_16, w80_19, w80_20, w80_22, w80_25, w80_26, w80_29, w80_30, w80_33, w80_34, w80_36, w80_39, w80_40, w80_41, w80_44, w80_45, w80_46, w80_49, w80_52, w80_53, w80_54, w80_57, w80_60, w80_61, w80_64, w80_65, w80_68, w80_71, w80_73, w80_74, w80_75, w80_76, w80_79, w80_82, w80_85, w80_86, w80_89, w80_90, w80_91, w80_92, w80_95, w80_98, w80_101, w80_102, w80_105, w80_106, w80_107, w80_110, tc59, tr59_0, ta60, tn60, xLoad_i, xLoad_l, xLoad_r, xInc_s, xBr_t, xBr_f, xNz_s, xGf_s, xPf_s, xPz_s, xLd_2, xLd_7, xLd_10, xLdb_3, xLdb_5, xLdb_9, xLdl_4, xLdr_6, xSt_2, xStl_4, xStb_3, xStb_5, xLen_s, xLen_10, xCpy_s, xIv_s, xMx_s, mCont_s, mCont_n, w32_s, w64_s, upC_e, upC_n, upC_u, upC_c, mEn_c, mEn_n, mcw_i, mcw_l, mcw_r, mcat_n, mcat_i, mcat_l, mcat_r, xlong_i, xlong_l, xlong_r, xlong_n, s1_at, s2_at, ↓reduceIte, reduceCtorEq, and_self, true_and, and_true, false_and, and_false, Bool.false_eq_true, ne_eq, not_true_eq_false, not_false_eq_true, or_true, true_or, or_false, false_or, or_self, Int.tmod_eq_emod_of_nonneg, Int.tdiv_eq_ediv_of_nonneg, Classical.not_not, xSw, rOK, b2i_ok, b2i_0, b2i_1, Nat.reduceAdd, Nat.reduceSub, Nat.reduceMul, Nat.reduceEqDiff, Nat.reduceLeDiff, Nat.reduceLT, Int.reduceAdd, Int.reduceSub, Int.reduceMul, Int.reduceNeg, Int.reduceEq, Int.reduceNe, Int.reduceLT, Int.reduceLE, Int.reduceToNat, Int.reduceTDiv, Int.reduceTMod, b2i_em, g0, e1, e2, w, w2]
    refine c_nextSign hT1 hk1 e2 e3 (by omega) t5 u2 (fun M2 f2 a2 a3 => ?_)
    have hr := hR M2 (f59_t f1 f2) a2 a3 (fun e => absurd e hk42)
    simp (disch := first | decide | omega) only [b80, w80_0, w80_1, w80_4, w80_5, w80_8, w80_11, w80_12, w80_15, w80_16, w80_19, w80_20, w80_22, w80_25, w80_26, w80_29, w80_30, w80_33, w80_34, w80_36, w80_39, w80_40, w80_41, w80_44, w80_45, w80_46, w80_49, w80_52, w80_53, w80_54, w80_57, w80_60, w80_61, w80_64, w80_65, w80_68, w80_71, w80_73, w80_74, w80_75, w80_76, w80_79, w80_82, w80_85, w80_86, w80_89, w80_90, w80_91, w80_92, w80_95, w80_98, w80_101, w80_102, w80_105, w80_106, w80_107, w80_110, tc59, tr59_0, ta60, tn60, xLoad_i, xLoad_l, xLoad_r, xInc_s, xBr_t, xBr_f, xNz_s, xGf_s, xPf_s, xPz_s, xLd_2, xLd_7, xLd_10, xLdb_3, xLdb_5, xLdb_9, xLdl_4, xLdr_6, xSt_2, xStl_4, xStb_3, xStb_5, xLen_s, xLen_10, xCpy_s, xIv_s, xMx_s, mCont_s, mCont_n, w32_s, w64_s, upC_e, upC_n, upC_u, upC_c, mEn_c, mEn_n, mcw_i, mcw_l, mcw_r, mcat_n, mcat_i, mcat_l, mcat_r, xlong_i, xlong_l, xlong_r, xlong_n, s1_at, s2_at, ↓reduceIte, reduceCtorEq, and_self, true_and, and_true, false_and, and_false, Bool.false_eq_true, ne_eq, not_true_eq_false, not_false_eq_true, or_true, true_or, or_false, false_or, or_self, Int.tmod_eq_emod_of_nonneg, Int.tdiv_eq_ediv_of_nonneg, Classical.not_not, xSw, rOK, b2i_ok, b2i_0, b2i_1, Nat.reduceAdd, Nat.reduceSub, Nat.reduceMul, Nat.reduceEqDiff, Nat.reduceLeDiff, Nat.reduceLT, Int.reduceAdd, Int.reduceSub, Int.reduceMul, Int.reduceNeg, Int.reduceEq, Int.reduceNe, Int.reduceLT, Int.reduceLE, Int.reduceToNat, Int.reduceTDiv, Int.reduceTMod, b2i_em]
    exact hr
theorem c_nextEnd {d n p : Nat} {M : mM} {K : mQ} {f : Int → Int} (hT : TC M f n) (h2 : M 59 2 = p) (hp : p ≤ n) (hb : ∀ j : Nat, p ≤ j → j < n → isBl (f j)) (hR : ∀ M', f59 M M' → M' 59 2 = n → M' 59 3 = n → K (some (vi 43)) M') : mCall (d + 8) 80 [vr 59] M K := by
  refine c_nextTok0 (a := n) hT h2 ⟨hp, Nat.le_refl _⟩ hb (fun g => absurd g (by omega)) (fun M1 lv f1 e2 e3 g0 => ?_)
  have e1 := (TC_c hT f1).1
  have hr := hR M1 f1 e2 e3
  simp (disch := first | decide | omega) only [b80, w80_0, w80_1, w80_4, w80_5, w80_8, w80_11, w80_12, w80_15, w80_16, w80_19, w80_20, w80_22, w80_25, w80_26, w80_29, w80_30, w80_33, w80_34, w80_36, w80_39, w80_40, w80_41, w80_44, w80_45, w80_46, w80_49, w80_52, w80_53, w80_54, w80_57, w80_60, w80_61, w80_64, w80_65, w80_68, w80_71, w80_73, w80_74, w80_75, w80_76, w80_79, w80_82, w80_85, w80_86, w80_89, w80_90, w80_91, w80_92, w80_95, w80_98, w80_101, w80_102, w80_105, w80_106, w80_107, w80_110, tc59, tr59_0, ta60, tn60, xLoad_i, xLoad_l, xLoad_r, xInc_s, xBr_t, xBr_f, xNz_s, xGf_s, xPf_s, xPz_s, xLd_2, xLd_7, xLd_10, xLdb_3, xLdb_5, xLdb_9, xLdl_4, xLdr_6, xSt_2, xStl_4, xStb_3, xStb_5, xLen_s, xLen_10, xCpy_s, xIv_s, xMx_s, mCont_s, mCont_n, w32_s, w64_s, upC_e, upC_n, upC_u, upC_c, mEn_c, mEn_n, mcw_i, mcw_l, mcw_r, mcat_n, mcat_i, mcat_l, mcat_r, xlong_i, xlong_l, xlong_r, xlong_n, s1_at, s2_at, ↓reduceIte, reduceCtorEq, and_self, true_and, and_true, false_and, and_false, Bool.false_eq_true, ne_eq, not_true_eq_false, not_false_eq_true, or_true, true_or, or_false, false_or, or_self, Int.tmod_eq_emod_of_nonneg, Int.tdiv_eq_ediv_of_nonneg, Classical.not_not, xSw, rOK, b2i_ok, b2i_0, b2i_1, Nat.reduceAdd, Nat.reduceSub, Nat.reduceMul, Nat.reduceEqDiff, Nat.reduceLeDiff, Nat.reduceLT, Int.reduceAdd, Int.reduceSub, Int.reduceMul, Int.reduceNeg, Int.reduceEq, Int.reduceNe, Int.reduceLT, Int.reduceLE, Int.reduceToNat, Int.reduceTDiv, Int.reduceTMod, b2i_em, g0, e1, e2]
  exact hr
