/-! the reference's steps -/
theorem r_keepsStep {d : Nat} {M : mM} {K : mQ} (h4 : 0 ≤ M 98 4 ∧ M 98 4 ≤ 30) : mCall (d + 1) 170 [vr 97] M K = K none (upC M 98 (kpA (M 98))) := by
  have hend : ∀ (F : Int → Int) (lv : mL) (n : Nat), kp0 (M 98) = F → F 4 = n → n ≤ 29 → (∀ i, 80 ≤ i → i < 292 → F i = M 98 i) → lv 0 = some (vr 97) → rn d 170 K 52 lv [] (upC M 98 F) = K none (upC M 98 (kpA (M 98))) := by
    intro F lv n hF h4 hn hlo g0
    rw [w170_52]
    simp (disch := first | decide | omega) only [b170, w170_0, w170_1, w170_4, w170_5, w170_6, w170_8, w170_11, w170_14, w170_15, w170_16, w170_19, w170_22, w170_23, w170_26, w170_27, w170_28, w170_31, w170_32, w170_35, w170_36, w170_37, w170_38, w170_41, w170_44, w170_45, w170_48, w170_49, w170_51, w170_53, w170_55, w170_58, w170_61, w170_62, w170_65, w170_68, w170_71, w170_72, w170_75, w170_76, w170_77, w170_78, w170_79, w170_80, w170_81, w170_82, w170_85, w170_87, w170_88, w170_89, w170_90, w170_91, w170_94, w170_97, w170_98, w170_101, w170_102, w170_103, w170_104, w170_105, w170_106, w170_107, tc97, tr97_0, tr97_1, tr97_2, tr97_6, tr97_7, tr97_8, tr97_9, tr97_10, tr97_11, tr97_12, tr97_22, tr97_23, tr97_25, tr97_26, tr97_30, tr97_31, tr97_32, tr97_33, tr97_35, tr97_36, tr97_37, tr97_38, tr97_40, tr97_41, tr97_42, tr97_43, tr97_44, tr97_45, tr97_46, tr97_47, tr97_48, tr97_49, tr97_50, tr97_51, tr97_52, tr97_53, tr97_54, tr97_55, tr97_56, tr97_57, tr97_58, tr97_59, tr97_60, tr97_61, ta98, tn98, ta99, tn99, ta100, tn100, ta101, tn101, ta102, tn102, ta103, tn103, ta104, tn104, ta105, tn105, ta106, tn106, ta107, tn107, ta108, tn108, ta109, tn109, ta110, tn110, ta111, tn111, ta112, tn112, ta113, tn113, ta114, tn114, ta115, tn115, ta116, tn116, ta117, tn117, ta118, tn118, ta119, tn119, ta120, tn120, ta121, tn121, ta122, tn122, ta123, tn123, ta124, tn124, ta125, tn125, ta126, tn126, ta127, tn127, ta128, tn128, ta129, tn129, ta130, tn130, ta131, tn131, ta132, tn132, ta133, tn133, ta134, tn134, ta135, tn135, ta136, tn136, ta137, tn137, ta138, tn138, ta139, tn139, ta140, tn140, ta141, tn141, xLoad_i, xLoad_l, xLoad_r, xInc_s, xBr_t, xBr_f, xNz_s, xGf_s, xPf_s, xPz_s, xLd_2, xLd_7, xLd_10, xLdb_3, xLdb_5, xLdb_9, xLdl_4, xLdr_6, xSt_2, xStl_4, xStb_3, xStb_5, xLen_s, xLen_10, xCpy_s, xIv_s, xMx_s, mCont_s, mCont_n, w32_s, w64_s, upC_e, upC_n, upC_u, upC_c, mEn_c, mEn_n, mcw_i, mcw_l, mcw_r, mcat_n, mcat_i, mcat_l, mcat_r, xlong_i, xlong_l, xlong_r, xlong_n, s1_at, s2_at, ↓reduceIte, reduceCtorEq, and_self, true_and, and_true, false_and, and_false, Bool.false_eq_true, ne_eq, not_true_eq_false, not_false_eq_true, or_true, true_or, or_false, false_or, or_self, Int.tmod_eq_emod_of_nonneg, Int.tdiv_eq_ediv_of_nonneg, Classical.not_not, xSw, rOK, b2i_ok, b2i_0, b2i_1, Nat.reduceAdd, Nat.reduceSub, Nat.reduceMul, Nat.reduceEqDiff, Nat.reduceLeDiff, Nat.reduceLT, Int.reduceAdd, Int.reduceSub, Int.reduceMul, Int.reduceNeg, Int.reduceEq, Int.reduceNe, Int.reduceLT, Int.reduceLE, Int.reduceToNat, Int.reduceTDiv, Int.reduceTMod, b2i_em, g0]
    refine loopL (P := fun k lv M' => M' = upC M 98 (fun i => if 300 + 212 * (n : Int) ≤ i ∧ i < 300 + 212 * (n : Int) + (k : Nat) then M 98 (i - (300 + 212 * (n : Int)) + 80) else F i) ∧ lv 0 = some (vr 97) ∧ lv 1 = some (vi (k : Nat))) (G := fun lv M' => rn d 170 K 54 lv [] M' = K none (upC M 98 (kpA (M 98)))) 212 0 (Nat.zero_le _) _ _ ⟨?_, ?_, ?_⟩ (fun k hk ih lv M' h => ?_) (fun lv M' h => ?_)
    any_goals (simp [s1_at, s2_at, mEn_c, mcw_r, mcw_i, mcw_l, xlong_i, xlong_r, xlong_l, xlong_n, g0]; done)
    · congr 1
      funext i
      rw [if_neg (by omega)]
    · obtain ⟨rfl, g0, g1⟩ := h
      have e4 : (if 300 + 212 * (n : Int) ≤ 4 ∧ 4 < 300 + 212 * (n : Int) + (k : Nat) then M 98 (4 - (300 + 212 * (n : Int)) + 80) else F 4) = n := by rw [if_neg (by omega), h4]
      have e80 : (if 300 + 212 * (n : Int) ≤ 80 + (k : Int) ∧ 80 + (k : Int) < 300 + 212 * (n : Int) + (k : Nat) then M 98 (80 + (k : Int) - (300 + 212 * (n : Int)) + 80) else F (80 + (k : Int))) = M 98 (80 + k) := by rw [if_neg (by omega), hlo _ (by omega) (by omega)]
      rw [w170_54]
      simp (disch := first | decide | omega) only [b170, w170_0, w170_1, w170_4, w170_5, w170_6, w170_8, w170_11, w170_14, w170_15, w170_16, w170_19, w170_22, w170_23, w170_26, w170_27, w170_28, w170_31, w170_32, w170_35, w170_36, w170_37, w170_38, w170_41, w170_44, w170_45, w170_48, w170_49, w170_51, w170_53, w170_55, w170_58, w170_61, w170_62, w170_65, w170_68, w170_71, w170_72, w170_75, w170_76, w170_77, w170_78, w170_79, w170_80, w170_81, w170_82, w170_85, w170_87, w170_88, w170_89, w170_90, w170_91, w170_94, w170_97, w170_98, w170_101, w170_102, w170_103, w170_104, w170_105, w170_106, w170_107, tc97, tr97_0, tr97_1, tr97_2, tr97_6, tr97_7, tr97_8, tr97_9, tr97_10, tr97_11, tr97_12, tr97_22, tr97_23, tr97_25, tr97_26, tr97_30, tr97_31, tr97_32, tr97_33, tr97_35, tr97_36, tr97_37, tr97_38, tr97_40, tr97_41, tr97_42, tr97_43, tr97_44, tr97_45, tr97_46, tr97_47, tr97_48, tr97_49, tr97_50, tr97_51, tr97_52, tr97_53, tr97_54, tr97_55, tr97_56, tr97_57, tr97_58, tr97_59, tr97_60, tr97_61, ta98, tn98, ta99, tn99, ta100, tn100, ta101, tn101, ta102, tn102, ta103, tn103, ta104, tn104, ta105, tn105, ta106, tn106, ta107, tn107, ta108, tn108, ta109, tn109, ta110, tn110, ta111, tn111, ta112, tn112, ta113, tn113, ta114, tn114, ta115, tn115, ta116, tn116, ta117, tn117, ta118, tn118, ta119, tn119, ta120, tn120, ta121, tn121, ta122, tn122, ta123, tn123, ta124, tn124, ta125, tn125, ta126, tn126, ta127, tn127, ta128, tn128, ta129, tn129, ta130, tn130, ta131, tn131, ta132, tn132, ta133, tn133, ta134, tn134, ta135, tn135, ta136, tn136, ta137, tn137, ta138, tn138, ta139, tn139, ta140, tn140, ta141, tn141, xLoad_i, xLoad_l, xLoad_r, xInc_s, xBr_t, xBr_f, xNz_s, xGf_s, xPf_s, xPz_s, xLd_2, xLd_7, xLd_10, xLdb_3, xLdb_5, xLdb_9, xLdl_4, xLdr_6, xSt_2, xStl_4, xStb_3, xStb_5, xLen_s, xLen_10, xCpy_s, xIv_s, xMx_s, mCont_s, mCont_n, w32_s, w64_s, upC_e, upC_n, upC_u, upC_c, mEn_c, mEn_n, mcw_i, mcw_l, mcw_r, mcat_n, mcat_i, mcat_l, mcat_r, xlong_i, xlong_l, xlong_r, xlong_n, s1_at, s2_at, ↓reduceIte, reduceCtorEq, and_self, true_and, and_true, false_and, and_false, Bool.false_eq_true, ne_eq, not_true_eq_false, not_false_eq_true, or_true, true_or, or_false, false_or, or_self, Int.tmod_eq_emod_of_nonneg, Int.tdiv_eq_ediv_of_nonneg, Classical.not_not, xSw, rOK, b2i_ok, b2i_0, b2i_1, Nat.reduceAdd, Nat.reduceSub, Nat.reduceMul, Nat.reduceEqDiff, Nat.reduceLeDiff, Nat.reduceLT, Int.reduceAdd, Int.reduceSub, Int.reduceMul, Int.reduceNeg, Int.reduceEq, Int.reduceNe, Int.reduceLT, Int.reduceLE, Int.reduceToNat, Int.reduceTDiv, Int.reduceTMod, b2i_em, g0, g1, e4, e80]
      refine ih _ _ ⟨?_, ?_, ?_⟩
      any_goals (simp [s1_at, s2_at, mEn_c, mcw_r, mcw_i, mcw_l, xlong_i, xlong_r, xlong_l, xlong_n, g0, g1]; done)
      congr 1
      funext i
      unfold mU
      by_cases h1 : i = 300 + 212 * (n : Int) + (k : Int)
      · rw [if_pos h1, if_pos (by omega)]
        congr 1
        omega
      · rw [if_neg h1]
        show (if 300 + 212 * (n : Int) ≤ i ∧ i < 300 + 212 * (n : Int) + (k : Nat) then M 98 (i - (300 + 212 * (n : Int)) + 80) else F i) = _
        by_cases h2 : 300 + 212 * (n : Int) ≤ i ∧ i < 300 + 212 * (n : Int) + (k : Nat)
        · rw [if_pos h2, if_pos (by omega)]
        · rw [if_neg h2, if_neg (by omega)]
    · obtain ⟨rfl, g0, g1⟩ := h
      have e4 : (if 300 + 212 * (n : Int) ≤ 4 ∧ 4 < 300 + 212 * (n : Int) + (212 : Nat) then M 98 (4 - (300 + 212 * (n : Int)) + 80) else F 4) = n := by rw [if_neg (by omega), h4]
      rw [w170_54]
      simp (disch := first | decide | omega) only [b170, w170_0, w170_1, w170_4, w170_5, w170_6, w170_8, w170_11, w170_14, w170_15, w170_16, w170_19, w170_22, w170_23, w170_26, w170_27, w170_28, w170_31, w170_32, w170_35, w170_36, w170_37, w170_38, w170_41, w170_44, w170_45, w170_48, w170_49, w170_51, w170_53, w170_55, w170_58, w170_61, w170_62, w170_65, w170_68, w170_71, w170_72, w170_75, w170_76, w170_77, w170_78, w170_79, w170_80, w170_81, w170_82, w170_85, w170_87, w170_88, w170_89, w170_90, w170_91, w170_94, w170_97, w170_98, w170_101, w170_102, w170_103, w170_104, w170_105, w170_106, w170_107, tc97, tr97_0, tr97_1, tr97_2, tr97_6, tr97_7, tr97_8, tr97_9, tr97_10, tr97_11, tr97_12, tr97_22, tr97_23, tr97_25, tr97_26, tr97_30, tr97_31, tr97_32, tr97_33, tr97_35, tr97_36, tr97_37, tr97_38, tr97_40, tr97_41, tr97_42, tr97_43, tr97_44, tr97_45, tr97_46, tr97_47, tr97_48, tr97_49, tr97_50, tr97_51, tr97_52, tr97_53, tr97_54, tr97_55, tr97_56, tr97_57, tr97_58, tr97_59, tr97_60, tr97_61, ta98, tn98, ta99, tn99, ta100, tn100, ta101, tn101, ta102, tn102, ta103, tn103, ta104, tn104, ta105, tn105, ta106, tn106, ta107, tn107, ta108, tn108, ta109, tn109, ta110, tn110, ta111, tn111, ta112, tn112, ta113, tn113, ta114, tn114, ta115, tn115, ta116, tn116, ta117, tn117, ta118, tn118, ta119, tn119, ta120, tn120, ta121, tn121, ta122, tn122, ta123, tn123, ta124, tn124, ta125, tn125, ta126, tn126, ta127, tn127, ta128, tn128, ta129, tn129, ta130, tn130, ta131, tn131, ta132, tn132, ta133, tn133, ta134, tn134, ta135, tn135, ta136, tn136, ta137, tn137, ta138, tn138, ta139, tn139, ta140, tn140, ta141, tn141, xLoad_i, xLoad_l, xLoad_r, xInc_s, xBr_t, xBr_f, xNz_s, xGf_s, xPf_s, xPz_s, xLd_2, xLd_7, xLd_10, xLdb_3, xLdb_5, xLdb_9, xLdl_4, xLdr_6, xSt_2, xStl_4, xStb_3, xStb_5, xLen_s, xLen_10, xCpy_s, xIv_s, xMx_s, mCont_s, mCont_n, w32_s, w64_s, upC_e, upC_n, upC_u, upC_c, mEn_c, mEn_n, mcw_i, mcw_l, mcw_r, mcat_n, mcat_i, mcat_l, mcat_r, xlong_i, xlong_l, xlong_r, xlong_n, s1_at, s2_at, ↓reduceIte, reduceCtorEq, and_self, true_and, and_true, false_and, and_false, Bool.false_eq_true, ne_eq, not_true_eq_false, not_false_eq_true, or_true, true_or, or_false, false_or, or_self, Int.tmod_eq_emod_of_nonneg, Int.tdiv_eq_ediv_of_nonneg, Classical.not_not, xSw, rOK, b2i_ok, b2i_0, b2i_1, Nat.reduceAdd, Nat.reduceSub, Nat.reduceMul, Nat.reduceEqDiff, Nat.reduceLeDiff, Nat.reduceLT, Int.reduceAdd, Int.reduceSub, Int.reduceMul, Int.reduceNeg, Int.reduceEq, Int.reduceNe, Int.reduceLT, Int.reduceLE, Int.reduceToNat, Int.reduceTDiv, Int.reduceTMod, b2i_em, g0, g1, e4]
      unfold kpA
      rw [hF, h4]
      congr 3
      funext i
      by_cases h2 : 300 + 212 * (n : Int) ≤ i ∧ i < 512 + 212 * (n : Int)
      · rw [if_pos (by omega), if_pos h2]
      · rw [if_neg (by omega), if_neg h2]
  by_cases e : M 98 4 = 30
  · simp (disch := first | decide | omega) only [b170, w170_0, w170_1, w170_4, w170_5, w170_6, w170_8, w170_11, w170_14, w170_16, w170_19, w170_22, w170_23, w170_26, w170_27, w170_28, w170_31, w170_32, w170_35, w170_36, w170_37, w170_38, w170_41, w170_44, w170_45, w170_48, w170_49, w170_51, w170_53, w170_54, w170_55, w170_58, w170_61, w170_62, w170_65, w170_68, w170_71, w170_72, w170_75, w170_76, w170_77, w170_78, w170_79, w170_80, w170_81, w170_82, w170_85, w170_87, w170_88, w170_89, w170_90, w170_91, w170_94, w170_97, w170_98, w170_101, w170_102, w170_103, w170_104, w170_105, w170_106, w170_107, tc97, tr97_0, tr97_1, tr97_2, tr97_6, tr97_7, tr97_8, tr97_9, tr97_10, tr97_11, tr97_12, tr97_22, tr97_23, tr97_25, tr97_26, tr97_30, tr97_31, tr97_32, tr97_33, tr97_35, tr97_36, tr97_37, tr97_38, tr97_40, tr97_41, tr97_42, tr97_43, tr97_44, tr97_45, tr97_46, tr97_47, tr97_48, tr97_49, tr97_50, tr97_51, tr97_52, tr97_53, tr97_54, tr97_55, tr97_56, tr97_57, tr97_58, tr97_59, tr97_60, tr97_61, ta98, tn98, ta99, tn99, ta100, tn100, ta101, tn101, ta102, tn102, ta103, tn103, ta104, tn104, ta105, tn105, ta106, tn106, ta107, tn107, ta108, tn108, ta109, tn109, ta110, tn110, ta111, tn111, ta112, tn112, ta113, tn113, ta114, tn114, ta115, tn115, ta116, tn116, ta117, tn117, ta118, tn118, ta119, tn119, ta120, tn120, ta121, tn121, ta122, tn122, ta123, tn123, ta124, tn124, ta125, tn125, ta126, tn126, ta127, tn127, ta128, tn128, ta129, tn129, ta130, tn130, ta131, tn131, ta132, tn132, ta133, tn133, ta134, tn134, ta135, tn135, ta136, tn136, ta137, tn137, ta138, tn138, ta139, tn139, ta140, tn140, ta141, tn141, xLoad_i, xLoad_l, xLoad_r, xInc_s, xBr_t, xBr_f, xNz_s, xGf_s, xPf_s, xPz_s, xLd_2, xLd_7, xLd_10, xLdb_3, xLdb_5, xLdb_9, xLdl_4, xLdr_6, xSt_2, xStl_4, xStb_3, xStb_5, xLen_s, xLen_10, xCpy_s, xIv_s, xMx_s, mCont_s, mCont_n, w32_s, w64_s, upC_e, upC_n, upC_u, upC_c, mEn_c, mEn_n, mcw_i, mcw_l, mcw_r, mcat_n, mcat_i, mcat_l, mcat_r, xlong_i, xlong_l, xlong_r, xlong_n, s1_at, s2_at, ↓reduceIte, reduceCtorEq, and_self, true_and, and_true, false_and, and_false, Bool.false_eq_true, ne_eq, not_true_eq_false, not_false_eq_true, or_true, true_or, or_false, false_or, or_self, Int.tmod_eq_emod_of_nonneg, Int.tdiv_eq_ediv_of_nonneg, Classical.not_not, xSw, rOK, b2i_ok, b2i_0, b2i_1, Nat.reduceAdd, Nat.reduceSub, Nat.reduceMul, Nat.reduceEqDiff, Nat.reduceLeDiff, Nat.reduceLT, Int.reduceAdd, Int.reduceSub, Int.reduceMul, Int.reduceNeg, Int.reduceEq, Int.reduceNe, Int.reduceLT, Int.reduceLE, Int.reduceToNat, Int.reduceTDiv, Int.reduceTMod, b2i_em, e]
    refine loopL (P := fun k lv M' => M' = upC M 98 (fun i => if 300 ≤ i ∧ i < 300 + (k : Nat) then M 98 (i + 212) else M 98 i) ∧ lv 0 = some (vr 97) ∧ lv 1 = some (vi (300 + (k : Nat)))) (G := fun lv M' => rn d 170 K 15 lv [] M' = K none (upC M 98 (kpA (M 98)))) 6148 0 (Nat.zero_le _) _ _ ⟨?_, ?_, ?_⟩ (fun k hk ih lv M' h => ?_) (fun lv M' h => ?_)
    any_goals (simp [s1_at, s2_at, mEn_c, mcw_r, mcw_i, mcw_l, xlong_i, xlong_r, xlong_l, xlong_n]; done)
    · refine (upC_s (M := M) (k := 98)).symm.trans ?_
      congr 1
      funext i
      rw [if_neg (by omega)]
    · obtain ⟨rfl, g0, g1⟩ := h
      have e80 : (if 300 ≤ 300 + (k : Int) + 212 ∧ 300 + (k : Int) + 212 < 300 + (k : Nat) then M 98 (300 + (k : Int) + 212 + 212) else M 98 (300 + (k : Int) + 212)) = M 98 (300 + (k : Int) + 212) := by rw [if_neg (by omega)]
      rw [w170_15]
      simp (disch := first | decide | omega) only [b170, w170_0, w170_1, w170_4, w170_5, w170_6, w170_8, w170_11, w170_14, w170_16, w170_19, w170_22, w170_23, w170_26, w170_27, w170_28, w170_31, w170_32, w170_35, w170_36, w170_37, w170_38, w170_41, w170_44, w170_45, w170_48, w170_49, w170_51, w170_53, w170_54, w170_55, w170_58, w170_61, w170_62, w170_65, w170_68, w170_71, w170_72, w170_75, w170_76, w170_77, w170_78, w170_79, w170_80, w170_81, w170_82, w170_85, w170_87, w170_88, w170_89, w170_90, w170_91, w170_94, w170_97, w170_98, w170_101, w170_102, w170_103, w170_104, w170_105, w170_106, w170_107, tc97, tr97_0, tr97_1, tr97_2, tr97_6, tr97_7, tr97_8, tr97_9, tr97_10, tr97_11, tr97_12, tr97_22, tr97_23, tr97_25, tr97_26, tr97_30, tr97_31, tr97_32, tr97_33, tr97_35, tr97_36, tr97_37, tr97_38, tr97_40, tr97_41, tr97_42, tr97_43, tr97_44, tr97_45, tr97_46, tr97_47, tr97_48, tr97_49, tr97_50, tr97_51, tr97_52, tr97_53, tr97_54, tr97_55, tr97_56, tr97_57, tr97_58, tr97_59, tr97_60, tr97_61, ta98, tn98, ta99, tn99, ta100, tn100, ta101, tn101, ta102, tn102, ta103, tn103, ta104, tn104, ta105, tn105, ta106, tn106, ta107, tn107, ta108, tn108, ta109, tn109, ta110, tn110, ta111, tn111, ta112, tn112, ta113, tn113, ta114, tn114, ta115, tn115, ta116, tn116, ta117, tn117, ta118, tn118, ta119, tn119, ta120, tn120, ta121, tn121, ta122, tn122, ta123, tn123, ta124, tn124, ta125, tn125, ta126, tn126, ta127, tn127, ta128, tn128, ta129, tn129, ta130, tn130, ta131, tn131, ta132, tn132, ta133, tn133, ta134, tn134, ta135, tn135, ta136, tn136, ta137, tn137, ta138, tn138, ta139, tn139, ta140, tn140, ta141, tn141, xLoad_i, xLoad_l, xLoad_r, xInc_s, xBr_t, xBr_f, xNz_s, xGf_s, xPf_s, xPz_s, xLd_2, xLd_7, xLd_10, xLdb_3, xLdb_5, xLdb_9, xLdl_4, xLdr_6, xSt_2, xStl_4, xStb_3, xStb_5, xLen_s, xLen_10, xCpy_s, xIv_s, xMx_s, mCont_s, mCont_n, w32_s, w64_s, upC_e, upC_n, upC_u, upC_c, mEn_c, mEn_n, mcw_i, mcw_l, mcw_r, mcat_n, mcat_i, mcat_l, mcat_r, xlong_i, xlong_l, xlong_r, xlong_n, s1_at, s2_at, ↓reduceIte, reduceCtorEq, and_self, true_and, and_true, false_and, and_false, Bool.false_eq_true, ne_eq, not_true_eq_false, not_false_eq_true, or_true, true_or, or_false, false_or, or_self, Int.tmod_eq_emod_of_nonneg, Int.tdiv_eq_ediv_of_nonneg, Classical.not_not, xSw, rOK, b2i_ok, b2i_0, b2i_1, Nat.reduceAdd, Nat.reduceSub, Nat.reduceMul, Nat.reduceEqDiff, Nat.reduceLeDiff, Nat.reduceLT, Int.reduceAdd, Int.reduceSub, Int.reduceMul, Int.reduceNeg, Int.reduceEq, Int.reduceNe, Int.reduceLT, Int.reduceLE, Int.reduceToNat, Int.reduceTDiv, Int.reduceTMod, b2i_em, g0, g1, e80]
      refine ih _ _ ⟨?_, ?_, ?_⟩
      any_goals (simp [s1_at, s2_at, mEn_c, mcw_r, mcw_i, mcw_l, xlong_i, xlong_r, xlong_l, xlong_n, g0, g1]; done)
      · congr 1
        funext i
        unfold mU
        by_cases h1 : i = 300 + (k : Int)
        · rw [if_pos h1, if_pos (by omega), h1]
        · rw [if_neg h1]
          show (if 300 ≤ i ∧ i < 300 + (k : Int) then M 98 (i + 212) else M 98 i) = _
          by_cases h2 : 300 ≤ i ∧ i < 300 + (k : Int)
          · rw [if_pos h2, if_pos (by omega)]
          · rw [if_neg h2, if_neg (by omega)]
      · simp [s1_at, g0, g1, xlong_i, xlong_r]
        first | omega | exact congrArg vi (by omega)
    · obtain ⟨rfl, g0, g1⟩ := h
      have e4 : (if 300 ≤ (4 : Int) ∧ (4 : Int) < 300 + (6148 : Nat) then M 98 (4 + 212) else M 98 4) = 30 := by rw [if_neg (by omega), e]
      rw [w170_15]
      simp (disch := first | decide | omega) only [b170, w170_0, w170_1, w170_4, w170_5, w170_6, w170_8, w170_11, w170_14, w170_16, w170_19, w170_22, w170_23, w170_26, w170_27, w170_28, w170_31, w170_32, w170_35, w170_36, w170_37, w170_38, w170_41, w170_44, w170_45, w170_48, w170_49, w170_51, w170_53, w170_54, w170_55, w170_58, w170_61, w170_62, w170_65, w170_68, w170_71, w170_72, w170_75, w170_76, w170_77, w170_78, w170_79, w170_80, w170_81, w170_82, w170_85, w170_87, w170_88, w170_89, w170_90, w170_91, w170_94, w170_97, w170_98, w170_101, w170_102, w170_103, w170_104, w170_105, w170_106, w170_107, tc97, tr97_0, tr97_1, tr97_2, tr97_6, tr97_7, tr97_8, tr97_9, tr97_10, tr97_11, tr97_12, tr97_22, tr97_23, tr97_25, tr97_26, tr97_30, tr97_31, tr97_32, tr97_33, tr97_35, tr97_36, tr97_37, tr97_38, tr97_40, tr97_41, tr97_42, tr97_43, tr97_44, tr97_45, tr97_46, tr97_47, tr97_48, tr97_49, tr97_50, tr97_51, tr97_52, tr97_53, tr97_54, tr97_55, tr97_56, tr97_57, tr97_58, tr97_59, tr97_60, tr97_61, ta98, tn98, ta99, tn99, ta100, tn100, ta101, tn101, ta102, tn102, ta103, tn103, ta104, tn104, ta105, tn105, ta106, tn106, ta107, tn107, ta108, tn108, ta109, tn109, ta110, tn110, ta111, tn111, ta112, tn112, ta113, tn113, ta114, tn114, ta115, tn115, ta116, tn116, ta117, tn117, ta118, tn118, ta119, tn119, ta120, tn120, ta121, tn121, ta122, tn122, ta123, tn123, ta124, tn124, ta125, tn125, ta126, tn126, ta127, tn127, ta128, tn128, ta129, tn129, ta130, tn130, ta131, tn131, ta132, tn132, ta133, tn133, ta134, tn134, ta135, tn135, ta136, tn136, ta137, tn137, ta138, tn138, ta139, tn139, ta140, tn140, ta141, tn141, xLoad_i, xLoad_l, xLoad_r, xInc_s, xBr_t, xBr_f, xNz_s, xGf_s, xPf_s, xPz_s, xLd_2, xLd_7, xLd_10, xLdb_3, xLdb_5, xLdb_9, xLdl_4, xLdr_6, xSt_2, xStl_4, xStb_3, xStb_5, xLen_s, xLen_10, xCpy_s, xIv_s, xMx_s, mCont_s, mCont_n, w32_s, w64_s, upC_e, upC_n, upC_u, upC_c, mEn_c, mEn_n, mcw_i, mcw_l, mcw_r, mcat_n, mcat_i, mcat_l, mcat_r, xlong_i, xlong_l, xlong_r, xlong_n, s1_at, s2_at, ↓reduceIte, reduceCtorEq, and_self, true_and, and_true, false_and, and_false, Bool.false_eq_true, ne_eq, not_true_eq_false, not_false_eq_true, or_true, true_or, or_false, false_or, or_self, Int.tmod_eq_emod_of_nonneg, Int.tdiv_eq_ediv_of_nonneg, Classical.not_not, xSw, rOK, b2i_ok, b2i_0, b2i_1, Nat.reduceAdd, Nat.reduceSub, Nat.reduceMul, Nat.reduceEqDiff, Nat.reduceLeDiff, Nat.reduceLT, Int.reduceAdd, Int.reduceSub, Int.reduceMul, Int.reduceNeg, Int.reduceEq, Int.reduceNe, Int.reduceLT, Int.reduceLE, Int.reduceToNat, Int.reduceTDiv, Int.reduceTMod, b2i_em, g0, g1, e4]
      refine hend _ _ 29 ?_ (by rw [mU_e]; rfl) (by decide) (fun i h0 h1 => by rw [mU_n (by omega), if_neg (by omega)]) g0
      unfold kp0
      rw [if_pos e]
      congr 1
  · simp (disch := first | decide | omega) only [b170, w170_0, w170_1, w170_4, w170_5, w170_6, w170_8, w170_11, w170_14, w170_16, w170_19, w170_22, w170_23, w170_26, w170_27, w170_28, w170_31, w170_32, w170_35, w170_36, w170_37, w170_38, w170_41, w170_44, w170_45, w170_48, w170_49, w170_51, w170_53, w170_54, w170_55, w170_58, w170_61, w170_62, w170_65, w170_68, w170_71, w170_72, w170_75, w170_76, w170_77, w170_78, w170_79, w170_80, w170_81, w170_82, w170_85, w170_87, w170_88, w170_89, w170_90, w170_91, w170_94, w170_97, w170_98, w170_101, w170_102, w170_103, w170_104, w170_105, w170_106, w170_107, tc97, tr97_0, tr97_1, tr97_2, tr97_6, tr97_7, tr97_8, tr97_9, tr97_10, tr97_11, tr97_12, tr97_22, tr97_23, tr97_25, tr97_26, tr97_30, tr97_31, tr97_32, tr97_33, tr97_35, tr97_36, tr97_37, tr97_38, tr97_40, tr97_41, tr97_42, tr97_43, tr97_44, tr97_45, tr97_46, tr97_47, tr97_48, tr97_49, tr97_50, tr97_51, tr97_52, tr97_53, tr97_54, tr97_55, tr97_56, tr97_57, tr97_58, tr97_59, tr97_60, tr97_61, ta98, tn98, ta99, tn99, ta100, tn100, ta101, tn101, ta102, tn102, ta103, tn103, ta104, tn104, ta105, tn105, ta106, tn106, ta107, tn107, ta108, tn108, ta109, tn109, ta110, tn110, ta111, tn111, ta112, tn112, ta113, tn113, ta114, tn114, ta115, tn115, ta116, tn116, ta117, tn117, ta118, tn118, ta119, tn119, ta120, tn120, ta121, tn121, ta122, tn122, ta123, tn123, ta124, tn124, ta125, tn125, ta126, tn126, ta127, tn127, ta128, tn128, ta129, tn129, ta130, tn130, ta131, tn131, ta132, tn132, ta133, tn133, ta134, tn134, ta135, tn135, ta136, tn136, ta137, tn137, ta138, tn138, ta139, tn139, ta140, tn140, ta141, tn141, xLoad_i, xLoad_l, xLoad_r, xInc_s, xBr_t, xBr_f, xNz_s, xGf_s, xPf_s, xPz_s, xLd_2, xLd_7, xLd_10, xLdb_3, xLdb_5, xLdb_9, xLdl_4, xLdr_6, xSt_2, xStl_4, xStb_3, xStb_5, xLen_s, xLen_10, xCpy_s, xIv_s, xMx_s, mCont_s, mCont_n, w32_s, w64_s, upC_e, upC_n, upC_u, upC_c, mEn_c, mEn_n, mcw_i, mcw_l, mcw_r, mcat_n, mcat_i, mcat_l, mcat_r, xlong_i, xlong_l, xlong_r, xlong_n, s1_at, s2_at, ↓reduceIte, reduceCtorEq, and_self, true_and, and_true, false_and, and_false, Bool.false_eq_true, ne_eq, not_true_eq_false, not_false_eq_true, or_true, true_or, or_false, false_or, or_self, Int.tmod_eq_emod_of_nonneg, Int.tdiv_eq_ediv_of_nonneg, Classical.not_not, xSw, rOK, b2i_ok, b2i_0, b2i_1, Nat.reduceAdd, Nat.reduceSub, Nat.reduceMul, Nat.reduceEqDiff, Nat.reduceLeDiff, Nat.reduceLT, Int.reduceAdd, Int.reduceSub, Int.reduceMul, Int.reduceNeg, Int.reduceEq, Int.reduceNe, Int.reduceLT, Int.reduceLE, Int.reduceToNat, Int.reduceTDiv, Int.reduceTMod, b2i_em, e]
    have := hend (M 98) (mEn 0 [vr 97]) (M 98 4).toNat (by unfold kp0; rw [if_neg e]) (by omega) (by omega) (fun _ _ _ => rfl) (by simp [s1_at, s2_at, mEn_c, mcw_r, mcw_i, mcw_l, xlong_i, xlong_r, xlong_l, xlong_n])
    rw [upC_s] at this
    exact this
def kNw (M : mM) : Int → Int := fun i => if i = 81 then M 97 39 else if 89 ≤ i ∧ i < 95 then M 121 (i - 89) else if 95 ≤ i ∧ i < 101 then M 122 (i - 95) else if 101 ≤ i ∧ i < 107 then M 123 (i - 101) else if 107 ≤ i ∧ i < 119 then M 124 (i - 107) else if 119 ≤ i ∧ i < 131 then M 125 (i - 119) else M 98 i
theorem r_keepsNow {d : Nat} {M : mM} {K : mQ} : mCall (d + 1) 212 [vr 97] M K = K none (upC M 98 (kNw M)) := by
  simp (disch := first | decide | omega) only [b212, w212_0, w212_1, w212_4, w212_6, w212_7, w212_10, w212_11, w212_12, w212_14, w212_16, w212_19, w212_20, w212_23, w212_25, w212_26, w212_27, w212_28, w212_31, w212_32, w212_33, w212_34, w212_35, w212_38, w212_40, w212_41, w212_42, w212_43, w212_46, w212_47, w212_48, w212_49, w212_50, w212_53, w212_55, w212_56, w212_57, w212_58, w212_61, w212_62, w212_63, w212_64, w212_67, w212_70, w212_71, w212_72, w212_73, w212_75, w212_78, w212_79, w212_82, w212_84, w212_85, w212_86, w212_87, w212_90, w212_91, w212_92, w212_93, w212_94, w212_97, w212_99, w212_100, w212_101, w212_102, w212_105, w212_106, w212_107, w212_108, w212_111, w212_114, tc97, tr97_0, tr97_1, tr97_2, tr97_6, tr97_7, tr97_8, tr97_9, tr97_10, tr97_11, tr97_12, tr97_22, tr97_23, tr97_25, tr97_26, tr97_30, tr97_31, tr97_32, tr97_33, tr97_35, tr97_36, tr97_37, tr97_38, tr97_40, tr97_41, tr97_42, tr97_43, tr97_44, tr97_45, tr97_46, tr97_47, tr97_48, tr97_49, tr97_50, tr97_51, tr97_52, tr97_53, tr97_54, tr97_55, tr97_56, tr97_57, tr97_58, tr97_59, tr97_60, tr97_61, ta98, tn98, ta99, tn99, ta100, tn100, ta101, tn101, ta102, tn102, ta103, tn103, ta104, tn104, ta105, tn105, ta106, tn106, ta107, tn107, ta108, tn108, ta109, tn109, ta110, tn110, ta111, tn111, ta112, tn112, ta113, tn113, ta114, tn114, ta115, tn115, ta116, tn116, ta117, tn117, ta118, tn118, ta119, tn119, ta120, tn120, ta121, tn121, ta122, tn122, ta123, tn123, ta124, tn124, ta125, tn125, ta126, tn126, ta127, tn127, ta128, tn128, ta129, tn129, ta130, tn130, ta131, tn131, ta132, tn132, ta133, tn133, ta134, tn134, ta135, tn135, ta136, tn136, ta137, tn137, ta138, tn138, ta139, tn139, ta140, tn140, ta141, tn141, xLoad_i, xLoad_l, xLoad_r, xInc_s, xBr_t, xBr_f, xNz_s, xGf_s, xPf_s, xPz_s, xLd_2, xLd_7, xLd_10, xLdb_3, xLdb_5, xLdb_9, xLdl_4, xLdr_6, xSt_2, xStl_4, xStb_3, xStb_5, xLen_s, xLen_10, xCpy_s, xIv_s, xMx_s, mCont_s, mCont_n, w32_s, w64_s, upC_e, upC_n, upC_u, upC_c, mEn_c, mEn_n, mcw_i, mcw_l, mcw_r, mcat_n, mcat_i, mcat_l, mcat_r, xlong_i, xlong_l, xlong_r, xlong_n, s1_at, s2_at, ↓reduceIte, reduceCtorEq, and_self, true_and, and_true, false_and, and_false, Bool.false_eq_true, ne_eq, not_true_eq_false, not_false_eq_true, or_true, true_or, or_false, false_or, or_self, Int.tmod_eq_emod_of_nonneg, Int.tdiv_eq_ediv_of_nonneg, Classical.not_not, xSw, rOK, b2i_ok, b2i_0, b2i_1, Nat.reduceAdd, Nat.reduceSub, Nat.reduceMul, Nat.reduceEqDiff, Nat.reduceLeDiff, Nat.reduceLT, Int.reduceAdd, Int.reduceSub, Int.reduceMul, Int.reduceNeg, Int.reduceEq, Int.reduceNe, Int.reduceLT, Int.reduceLE, Int.reduceToNat, Int.reduceTDiv, Int.reduceTMod, b2i_em]
  refine loopL (P := fun k lv M' => M' = upC M 98 (fun i => if i = 81 then M 97 39 else if 89 ≤ i ∧ i < 89 + (k : Nat) then M 121 (i - 89) else if 95 ≤ i ∧ i < 95 + (k : Nat) then M 122 (i - 95) else if 101 ≤ i ∧ i < 101 + (k : Nat) then M 123 (i - 101) else M 98 i) ∧ lv 0 = some (vr 97) ∧ lv 1 = some (vi (k : Nat))) (G := fun lv M' => rn d 212 K 13 lv [] M' = K none (upC M 98 (kNw M))) 6 0 (Nat.zero_le _) _ _ ⟨?_, ?_, ?_⟩ (fun k hk ih lv M' h => ?_) (fun lv M' h => ?_)
  any_goals (simp [s1_at, s2_at, mEn_c, mcw_r, mcw_i, mcw_l, xlong_i, xlong_r, xlong_l, xlong_n]; done)
  · congr 1
    funext i
    unfold mU
    by_cases h1 : i = 81
    · rw [if_pos h1, if_pos h1]
    · rw [if_neg h1, if_neg h1, if_neg (by omega), if_neg (by omega), if_neg (by omega)]
  · obtain ⟨rfl, g0, g1⟩ := h
    rw [w212_13]
    simp (disch := first | decide | omega) only [b212, w212_0, w212_1, w212_4, w212_6, w212_7, w212_10, w212_11, w212_12, w212_14, w212_16, w212_19, w212_20, w212_23, w212_25, w212_26, w212_27, w212_28, w212_31, w212_32, w212_33, w212_34, w212_35, w212_38, w212_40, w212_41, w212_42, w212_43, w212_46, w212_47, w212_48, w212_49, w212_50, w212_53, w212_55, w212_56, w212_57, w212_58, w212_61, w212_62, w212_63, w212_64, w212_67, w212_70, w212_71, w212_72, w212_73, w212_75, w212_78, w212_79, w212_82, w212_84, w212_85, w212_86, w212_87, w212_90, w212_91, w212_92, w212_93, w212_94, w212_97, w212_99, w212_100, w212_101, w212_102, w212_105, w212_106, w212_107, w212_108, w212_111, w212_114, tc97, tr97_0, tr97_1, tr97_2, tr97_6, tr97_7, tr97_8, tr97_9, tr97_10, tr97_11, tr97_12, tr97_22, tr97_23, tr97_25, tr97_26, tr97_30, tr97_31, tr97_32, tr97_33, tr97_35, tr97_36, tr97_37, tr97_38, tr97_40, tr97_41, tr97_42, tr97_43, tr97_44, tr97_45, tr97_46, tr97_47, tr97_48, tr97_49, tr97_50, tr97_51, tr97_52, tr97_53, tr97_54, tr97_55, tr97_56, tr97_57, tr97_58, tr97_59, tr97_60, tr97_61, ta98, tn98, ta99, tn99, ta100, tn100, ta101, tn101, ta102, tn102, ta103, tn103, ta104, tn104, ta105, tn105, ta106, tn106, ta107, tn107, ta108, tn108, ta109, tn109, ta110, tn110, ta111, tn111, ta112, tn112, ta113, tn113, ta114, tn114, ta115, tn115, ta116, tn116, ta117, tn117, ta118, tn118, ta119, tn119, ta120, tn120, ta121, tn121, ta122, tn122, ta123, tn123, ta124, tn124, ta125, tn125, ta126, tn126, ta127, tn127, ta128, tn128, ta129, tn129, ta130, tn130, ta131, tn131, ta132, tn132, ta133, tn133, ta134, tn134, ta135, tn135, ta136, tn136, ta137, tn137, ta138, tn138, ta139, tn139, ta140, tn140, ta141, tn141, xLoad_i, xLoad_l, xLoad_r, xInc_s, xBr_t, xBr_f, xNz_s, xGf_s, xPf_s, xPz_s, xLd_2, xLd_7, xLd_10, xLdb_3, xLdb_5, xLdb_9, xLdl_4, xLdr_6, xSt_2, xStl_4, xStb_3, xStb_5, xLen_s, xLen_10, xCpy_s, xIv_s, xMx_s, mCont_s, mCont_n, w32_s, w64_s, upC_e, upC_n, upC_u, upC_c, mEn_c, mEn_n, mcw_i, mcw_l, mcw_r, mcat_n, mcat_i, mcat_l, mcat_r, xlong_i, xlong_l, xlong_r, xlong_n, s1_at, s2_at, ↓reduceIte, reduceCtorEq, and_self, true_and, and_true, false_and, and_false, Bool.false_eq_true, ne_eq, not_true_eq_false, not_false_eq_true, or_true, true_or, or_false, false_or, or_self, Int.tmod_eq_emod_of_nonneg, Int.tdiv_eq_ediv_of_nonneg, Classical.not_not, xSw, rOK, b2i_ok, b2i_0, b2i_1, Nat.reduceAdd, Nat.reduceSub, Nat.reduceMul, Nat.reduceEqDiff, Nat.reduceLeDiff, Nat.reduceLT, Int.reduceAdd, Int.reduceSub, Int.reduceMul, Int.reduceNeg, Int.reduceEq, Int.reduceNe, Int.reduceLT, Int.reduceLE, Int.reduceToNat, Int.reduceTDiv, Int.reduceTMod, b2i_em, g0, g1]
    refine ih _ _ ⟨?_, ?_, ?_⟩
    any_goals (simp [s1_at, s2_at, mEn_c, mcw_r, mcw_i, mcw_l, xlong_i, xlong_r, xlong_l, xlong_n, g0, g1]; done)
    congr 1
    funext i
    unfold mU
    by_cases h1 : i = 101 + (k : Int)
    · rw [if_pos h1, if_neg (by omega), if_neg (by omega), if_neg (by omega), if_pos (by omega), h1, show 101 + (k : Int) - 101 = k by omega]
    · rw [if_neg h1]
      by_cases h2 : i = 95 + (k : Int)
      · rw [if_pos h2, if_neg (by omega), if_neg (by omega), if_pos (by omega), h2, show 95 + (k : Int) - 95 = k by omega]
      · rw [if_neg h2]
        by_cases h3 : i = 89 + (k : Int)
        · rw [if_pos h3, if_neg (by omega), if_pos (by omega), h3, show 89 + (k : Int) - 89 = k by omega]
        · rw [if_neg h3]
          show (if i = 81 then _ else _) = _
          by_cases c1 : i = 81
          · rw [if_pos c1, if_pos c1]
          · rw [if_neg c1, if_neg c1]
            by_cases c2 : 89 ≤ i ∧ i < 89 + (k : Int)
            · rw [if_pos c2, if_pos (by omega)]
            · rw [if_neg c2, if_neg (by omega)]
              by_cases c3 : 95 ≤ i ∧ i < 95 + (k : Int)
              · rw [if_pos c3, if_pos (by omega)]
              · rw [if_neg c3, if_neg (by omega)]
                by_cases c4 : 101 ≤ i ∧ i < 101 + (k : Int)
                · rw [if_pos c4, if_pos (by omega)]
                · rw [if_neg c4, if_neg (by omega)]
  · obtain ⟨rfl, g0, g1⟩ := h
    rw [w212_13]
    simp (disch := first | decide | omega) only [b212, w212_0, w212_1, w212_4, w212_6, w212_7, w212_10, w212_11, w212_12, w212_14, w212_16, w212_19, w212_20, w212_23, w212_25, w212_26, w212_27, w212_28, w212_31, w212_32, w212_33, w212_34, w212_35, w212_38, w212_40, w212_41, w212_42, w212_43, w212_46, w212_47, w212_48, w212_49, w212_50, w212_53, w212_55, w212_56, w212_57, w212_58, w212_61, w212_62, w212_63, w212_64, w212_67, w212_70, w212_71, w212_73, w212_75, w212_78, w212_79, w212_82, w212_84, w212_85, w212_86, w212_87, w212_90, w212_91, w212_92, w212_93, w212_94, w212_97, w212_99, w212_100, w212_101, w212_102, w212_105, w212_106, w212_107, w212_108, w212_111, w212_114, tc97, tr97_0, tr97_1, tr97_2, tr97_6, tr97_7, tr97_8, tr97_9, tr97_10, tr97_11, tr97_12, tr97_22, tr97_23, tr97_25, tr97_26, tr97_30, tr97_31, tr97_32, tr97_33, tr97_35, tr97_36, tr97_37, tr97_38, tr97_40, tr97_41, tr97_42, tr97_43, tr97_44, tr97_45, tr97_46, tr97_47, tr97_48, tr97_49, tr97_50, tr97_51, tr97_52, tr97_53, tr97_54, tr97_55, tr97_56, tr97_57, tr97_58, tr97_59, tr97_60, tr97_61, ta98, tn98, ta99, tn99, ta100, tn100, ta101, tn101, ta102, tn102, ta103, tn103, ta104, tn104, ta105, tn105, ta106, tn106, ta107, tn107, ta108, tn108, ta109, tn109, ta110, tn110, ta111, tn111, ta112, tn112, ta113, tn113, ta114, tn114, ta115, tn115, ta116, tn116, ta117, tn117, ta118, tn118, ta119, tn119, ta120, tn120, ta121, tn121, ta122, tn122, ta123, tn123, ta124, tn124, ta125, tn125, ta126, tn126, ta127, tn127, ta128, tn128, ta129, tn129, ta130, tn130, ta131, tn131, ta132, tn132, ta133, tn133, ta134, tn134, ta135, tn135, ta136, tn136, ta137, tn137, ta138, tn138, ta139, tn139, ta140, tn140, ta141, tn141, xLoad_i, xLoad_l, xLoad_r, xInc_s, xBr_t, xBr_f, xNz_s, xGf_s, xPf_s, xPz_s, xLd_2, xLd_7, xLd_10, xLdb_3, xLdb_5, xLdb_9, xLdl_4, xLdr_6, xSt_2, xStl_4, xStb_3, xStb_5, xLen_s, xLen_10, xCpy_s, xIv_s, xMx_s, mCont_s, mCont_n, w32_s, w64_s, upC_e, upC_n, upC_u, upC_c, mEn_c, mEn_n, mcw_i, mcw_l, mcw_r, mcat_n, mcat_i, mcat_l, mcat_r, xlong_i, xlong_l, xlong_r, xlong_n, s1_at, s2_at, ↓reduceIte, reduceCtorEq, and_self, true_and, and_true, false_and, and_false, Bool.false_eq_true, ne_eq, not_true_eq_false, not_false_eq_true, or_true, true_or, or_false, false_or, or_self, Int.tmod_eq_emod_of_nonneg, Int.tdiv_eq_ediv_of_nonneg, Classical.not_not, xSw, rOK, b2i_ok, b2i_0, b2i_1, Nat.reduceAdd, Nat.reduceSub, Nat.reduceMul, Nat.reduceEqDiff, Nat.reduceLeDiff, Nat.reduceLT, Int.reduceAdd, Int.reduceSub, Int.reduceMul, Int.reduceNeg, Int.reduceEq, Int.reduceNe, Int.reduceLT, Int.reduceLE, Int.reduceToNat, Int.reduceTDiv, Int.reduceTMod, b2i_em, g0, g1]
    refine loopL (P := fun k lv M' => M' = upC M 98 (fun i => if i = 81 then M 97 39 else if 89 ≤ i ∧ i < 95 then M 121 (i - 89) else if 95 ≤ i ∧ i < 101 then M 122 (i - 95) else if 101 ≤ i ∧ i < 107 then M 123 (i - 101) else if 107 ≤ i ∧ i < 107 + (k : Nat) then M 124 (i - 107) else if 119 ≤ i ∧ i < 119 + (k : Nat) then M 125 (i - 119) else M 98 i) ∧ lv 0 = some (vr 97) ∧ lv 1 = some (vi (k : Nat))) (G := fun lv M' => rn d 212 K 72 lv [] M' = K none (upC M 98 (kNw M))) 12 0 (Nat.zero_le _) _ _ ⟨?_, ?_, ?_⟩ (fun k hk ih lv M' h => ?_) (fun lv M' h => ?_)
    any_goals (simp [s1_at, s2_at, mEn_c, mcw_r, mcw_i, mcw_l, xlong_i, xlong_r, xlong_l, xlong_n, g0, g1]; done)
    · congr 1
      funext i
      by_cases c1 : i = 81
      · rw [if_pos c1, if_pos c1]
      · rw [if_neg c1, if_neg c1]
        by_cases c2 : 89 ≤ i ∧ i < 95
        · rw [if_pos (by omega), if_pos c2]
        · rw [if_neg (by omega), if_neg c2]
          by_cases c3 : 95 ≤ i ∧ i < 101
          · rw [if_pos (by omega), if_pos c3]
          · rw [if_neg (by omega), if_neg c3]
            by_cases c4 : 101 ≤ i ∧ i < 107
            · rw [if_pos (by omega), if_pos c4]
            · rw [if_neg (by omega), if_neg c4, if_neg (by omega), if_neg (by omega)]
    · obtain ⟨rfl, g0, g1⟩ := h
      rw [w212_72]
      simp (disch := first | decide | omega) only [b212, w212_0, w212_1, w212_4, w212_6, w212_7, w212_10, w212_11, w212_12, w212_14, w212_16, w212_19, w212_20, w212_23, w212_25, w212_26, w212_27, w212_28, w212_31, w212_32, w212_33, w212_34, w212_35, w212_38, w212_40, w212_41, w212_42, w212_43, w212_46, w212_47, w212_48, w212_49, w212_50, w212_53, w212_55, w212_56, w212_57, w212_58, w212_61, w212_62, w212_63, w212_64, w212_67, w212_70, w212_71, w212_73, w212_75, w212_78, w212_79, w212_82, w212_84, w212_85, w212_86, w212_87, w212_90, w212_91, w212_92, w212_93, w212_94, w212_97, w212_99, w212_100, w212_101, w212_102, w212_105, w212_106, w212_107, w212_108, w212_111, w212_114, tc97, tr97_0, tr97_1, tr97_2, tr97_6, tr97_7, tr97_8, tr97_9, tr97_10, tr97_11, tr97_12, tr97_22, tr97_23, tr97_25, tr97_26, tr97_30, tr97_31, tr97_32, tr97_33, tr97_35, tr97_36, tr97_37, tr97_38, tr97_40, tr97_41, tr97_42, tr97_43, tr97_44, tr97_45, tr97_46, tr97_47, tr97_48, tr97_49, tr97_50, tr97_51, tr97_52, tr97_53, tr97_54, tr97_55, tr97_56, tr97_57, tr97_58, tr97_59, tr97_60, tr97_61, ta98, tn98, ta99, tn99, ta100, tn100, ta101, tn101, ta102, tn102, ta103, tn103, ta104, tn104, ta105, tn105, ta106, tn106, ta107, tn107, ta108, tn108, ta109, tn109, ta110, tn110, ta111, tn111, ta112, tn112, ta113, tn113, ta114, tn114, ta115, tn115, ta116, tn116, ta117, tn117, ta118, tn118, ta119, tn119, ta120, tn120, ta121, tn121, ta122, tn122, ta123, tn123, ta124, tn124, ta125, tn125, ta126, tn126, ta127, tn127, ta128, tn128, ta129, tn129, ta130, tn130, ta131, tn131, ta132, tn132, ta133, tn133, ta134, tn134, ta135, tn135, ta136, tn136, ta137, tn137, ta138, tn138, ta139, tn139, ta140, tn140, ta141, tn141, xLoad_i, xLoad_l, xLoad_r, xInc_s, xBr_t, xBr_f, xNz_s, xGf_s, xPf_s, xPz_s, xLd_2, xLd_7, xLd_10, xLdb_3, xLdb_5, xLdb_9, xLdl_4, xLdr_6, xSt_2, xStl_4, xStb_3, xStb_5, xLen_s, xLen_10, xCpy_s, xIv_s, xMx_s, mCont_s, mCont_n, w32_s, w64_s, upC_e, upC_n, upC_u, upC_c, mEn_c, mEn_n, mcw_i, mcw_l, mcw_r, mcat_n, mcat_i, mcat_l, mcat_r, xlong_i, xlong_l, xlong_r, xlong_n, s1_at, s2_at, ↓reduceIte, reduceCtorEq, and_self, true_and, and_true, false_and, and_false, Bool.false_eq_true, ne_eq, not_true_eq_false, not_false_eq_true, or_true, true_or, or_false, false_or, or_self, Int.tmod_eq_emod_of_nonneg, Int.tdiv_eq_ediv_of_nonneg, Classical.not_not, xSw, rOK, b2i_ok, b2i_0, b2i_1, Nat.reduceAdd, Nat.reduceSub, Nat.reduceMul, Nat.reduceEqDiff, Nat.reduceLeDiff, Nat.reduceLT, Int.reduceAdd, Int.reduceSub, Int.reduceMul, Int.reduceNeg, Int.reduceEq, Int.reduceNe, Int.reduceLT, Int.reduceLE, Int.reduceToNat, Int.reduceTDiv, Int.reduceTMod, b2i_em, g0, g1]
      refine ih _ _ ⟨?_, ?_, ?_⟩
      any_goals (simp [s1_at, s2_at, mEn_c, mcw_r, mcw_i, mcw_l, xlong_i, xlong_r, xlong_l, xlong_n, g0, g1]; done)
      congr 1
      funext i
      unfold mU
      by_cases h1 : i = 119 + (k : Int)
      · rw [if_pos h1, if_neg (by omega), if_neg (by omega), if_neg (by omega), if_neg (by omega), if_neg (by omega), if_pos (by omega), h1, show 119 + (k : Int) - 119 = k by omega]
      · rw [if_neg h1]
        by_cases h2 : i = 107 + (k : Int)
        · rw [if_pos h2, if_neg (by omega), if_neg (by omega), if_neg (by omega), if_neg (by omega), if_pos (by omega), h2, show 107 + (k : Int) - 107 = k by omega]
        · rw [if_neg h2]
          show (if i = 81 then _ else _) = _
          by_cases c1 : i = 81
          · rw [if_pos c1, if_pos c1]
          · rw [if_neg c1, if_neg c1]
            by_cases c2 : 89 ≤ i ∧ i < 95
            · rw [if_pos c2, if_pos c2]
            · rw [if_neg c2, if_neg c2]
              by_cases c3 : 95 ≤ i ∧ i < 101
              · rw [if_pos c3, if_pos c3]
              · rw [if_neg c3, if_neg c3]
                by_cases c4 : 101 ≤ i ∧ i < 107
                · rw [if_pos c4, if_pos c4]
                · rw [if_neg c4, if_neg c4]
                  by_cases c5 : 107 ≤ i ∧ i < 107 + (k : Int)
                  · rw [if_pos c5, if_pos (by omega)]
                  · rw [if_neg c5, if_neg (by omega)]
                    by_cases c6 : 119 ≤ i ∧ i < 119 + (k : Int)
                    · rw [if_pos c6, if_pos (by omega)]
                    · rw [if_neg c6, if_neg (by omega)]
    · obtain ⟨rfl, g0, g1⟩ := h
      rw [w212_72]
      simp (disch := first | decide | omega) only [b212, w212_0, w212_1, w212_4, w212_6, w212_7, w212_10, w212_11, w212_12, w212_14, w212_16, w212_19, w212_20, w212_23, w212_25, w212_26, w212_27, w212_28, w212_31, w212_32, w212_33, w212_34, w212_35, w212_38, w212_40, w212_41, w212_42, w212_43, w212_46, w212_47, w212_48, w212_49, w212_50, w212_53, w212_55, w212_56, w212_57, w212_58, w212_61, w212_62, w212_63, w212_64, w212_67, w212_70, w212_71, w212_73, w212_75, w212_78, w212_79, w212_82, w212_84, w212_85, w212_86, w212_87, w212_90, w212_91, w212_92, w212_93, w212_94, w212_97, w212_99, w212_100, w212_101, w212_102, w212_105, w212_106, w212_107, w212_108, w212_111, w212_114, tc97, tr97_0, tr97_1, tr97_2, tr97_6, tr97_7, tr97_8, tr97_9, tr97_10, tr97_11, tr97_12, tr97_22, tr97_23, tr97_25, tr97_26, tr97_30, tr97_31, tr97_32, tr97_33, tr97_35, tr97_36, tr97_37, tr97_38, tr97_40, tr97_41, tr97_42, tr97_43, tr97_44, tr97_45, tr97_46, tr97_47, tr97_48, tr97_49, tr97_50, tr97_51, tr97_52, tr97_53, tr97_54, tr97_55, tr97_56, tr97_57, tr97_58, tr97_59, tr97_60, tr97_61, ta98, tn98, ta99, tn99, ta100, tn100, ta101, tn101, ta102, tn102, ta103, tn103, ta104, tn104, ta105, tn105, ta106, tn106, ta107, tn107, ta108, tn108, ta109, tn109, ta110, tn110, ta111, tn111, ta112, tn112, ta113, tn113, ta114, tn114, ta115, tn115, ta116, tn116, ta117, tn117, ta118, tn118, ta119, tn119, ta120, tn120, ta121, tn121, ta122, tn122, ta123, tn123, ta124, tn124, ta125, tn125, ta126, tn126, ta127, tn127, ta128, tn128, ta129, tn129, ta130, tn130, ta131, tn131, ta132, tn132, ta133, tn133, ta134, tn134, ta135, tn135, ta136, tn136, ta137, tn137, ta138, tn138, ta139, tn139, ta140, tn140, ta141, tn141, xLoad_i, xLoad_l, xLoad_r, xInc_s, xBr_t, xBr_f, xNz_s, xGf_s, xPf_s, xPz_s, xLd_2, xLd_7, xLd_10, xLdb_3, xLdb_5, xLdb_9, xLdl_4, xLdr_6, xSt_2, xStl_4, xStb_3, xStb_5, xLen_s, xLen_10, xCpy_s, xIv_s, xMx_s, mCont_s, mCont_n, w32_s, w64_s, upC_e, upC_n, upC_u, upC_c, mEn_c, mEn_n, mcw_i, mcw_l, mcw_r, mcat_n, mcat_i, mcat_l, mcat_r, xlong_i, xlong_l, xlong_r, xlong_n, s1_at, s2_at, ↓reduceIte, reduceCtorEq, and_self, true_and, and_true, false_and, and_false, Bool.false_eq_true, ne_eq, not_true_eq_false, not_false_eq_true, or_true, true_or, or_false, false_or, or_self, Int.tmod_eq_emod_of_nonneg, Int.tdiv_eq_ediv_of_nonneg, Classical.not_not, xSw, rOK, b2i_ok, b2i_0, b2i_1, Nat.reduceAdd, Nat.reduceSub, Nat.reduceMul, Nat.reduceEqDiff, Nat.reduceLeDiff, Nat.reduceLT, Int.reduceAdd, Int.reduceSub, Int.reduceMul, Int.reduceNeg, Int.reduceEq, Int.reduceNe, Int.reduceLT, Int.reduceLE, Int.reduceToNat, Int.reduceTDiv, Int.reduceTMod, b2i_em, g0, g1]
      rfl
theorem kNw_hA {M : mM} {ru : RU} {A : Int → Int} (hl : LD M (hA ru A)) (h98 : M 98 = faA ru A (A 0).toNat) (hR : 0 ≤ A 131 ∧ A 131 ≤ 40) : kNw M = hA ru A := by
  funext i
  unfold kNw
  have nat : ∀ (x : Int) (n : Nat), 0 ≤ x → x < n → ∃ b : Nat, x = b ∧ b < n := fun x n h0 h1 => ⟨x.toNat, by omega, by omega⟩
  by_cases c1 : i = 81
  · rw [if_pos c1, c1]; exact hl.2.2
  · rw [if_neg c1]
    by_cases c2 : 89 ≤ i ∧ i < 95
    · rw [if_pos c2]
      obtain ⟨b, hb, hb6⟩ := nat (i - 89) 6 (by omega) (by omega)
      rw [hb, (hl.1 b hb6).2.1]
      congr 1
      omega
    · rw [if_neg c2]
      by_cases c3 : 95 ≤ i ∧ i < 101
      · rw [if_pos c3]
        obtain ⟨b, hb, hb6⟩ := nat (i - 95) 6 (by omega) (by omega)
        rw [hb, (hl.1 b hb6).2.2.1]
        congr 1
        omega
      · rw [if_neg c3]
        by_cases c4 : 101 ≤ i ∧ i < 107
        · rw [if_pos c4]
          obtain ⟨b, hb, hb6⟩ := nat (i - 101) 6 (by omega) (by omega)
          rw [hb, (hl.1 b hb6).2.2.2]
          congr 1
          omega
        · rw [if_neg c4]
          by_cases c5 : 107 ≤ i ∧ i < 119
          · rw [if_pos c5]
            obtain ⟨b, hb, hb6⟩ := nat (i - 107) 12 (by omega) (by omega)
            rw [hb, (hl.2.1 b hb6).1]
            congr 1
            omega
          · rw [if_neg c5]
            by_cases c6 : 119 ≤ i ∧ i < 131
            · rw [if_pos c6]
              obtain ⟨b, hb, hb6⟩ := nat (i - 119) 12 (by omega) (by omega)
              rw [hb, (hl.2.1 b hb6).2]
              congr 1
              omega
            · rw [if_neg c6, h98]
              by_cases c7 : 131 ≤ i
              · rw [hA_hi c7]
              · rw [hA_lo (by omega) c1, faA_lo hR (by omega)]
