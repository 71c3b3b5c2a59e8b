/-! a load is told -/
def ldA (A : Int → Int) (w k p : Int) : Int → Int := mU (fun i => if (300 ≤ i ∧ i < 300 + 212 * A 4) ∧ (i - 300) % 212 = 27 + A 1 then -1 else mU (mU (mU (mU A (22 + 3 * A 1) w) (23 + 3 * A 1) k) (24 + 3 * A 1) p) (107 + A 1) (-1) i) 1 (A 1 + 1)
def cLd (w k p l : Int) : Prop := (1 ≤ w ∧ w ≤ 60) ∧ (0 ≤ k ∧ k ≤ 5) ∧ (0 ≤ p ∧ p ≤ 99) ∧ l ≠ 12
set_option maxHeartbeats 1000000 in
theorem r_load {d : Nat} {M : mM} {K : mQ} {w k p : Int} (hL : 0 ≤ M 98 1 ∧ M 98 1 ≤ 12) (h4 : 0 ≤ M 98 4 ∧ M 98 4 ≤ 30) (hy : cLd w k p (M 98 1) → K (some (vi (M 98 1))) (upC M 98 (ldA (M 98) w k p))) (hn : ¬ cLd w k p (M 98 1) → K (some (vi (-1))) M) : mCall (d + 2) 168 [vr 97, vi w, vi k, vi p] M K := by
  by_cases c : cLd w k p (M 98 1)
  · have hy2 := hy c
    unfold cLd at c
    have a1 : ∀ f : Int → Int, (mU (mU (mU (mU (M 98) (22 + 3 * M 98 1) w) (23 + 3 * M 98 1) k) (24 + 3 * M 98 1) p) (107 + M 98 1) (-1)) 1 = M 98 1 := fun _ => by simp (disch := first | decide | omega) only [upC_e, upC_n, mU_e, mU_n]
    simp (disch := first | decide | omega) only [b168, w168_0, w168_1, w168_4, w168_5, w168_6, w168_8, w168_9, w168_10, w168_12, w168_15, w168_18, w168_19, w168_20, w168_21, w168_24, w168_27, w168_28, w168_29, w168_31, w168_34, w168_37, w168_39, w168_41, w168_44, w168_45, w168_46, w168_47, w168_50, w168_52, w168_53, w168_55, w168_56, w168_57, w168_58, w168_59, w168_60, w168_63, w168_65, w168_66, w168_68, w168_69, w168_70, w168_71, w168_72, w168_73, w168_74, w168_75, w168_78, w168_80, w168_81, w168_83, w168_84, w168_85, w168_86, w168_87, w168_88, w168_89, w168_90, w168_93, w168_95, w168_97, w168_98, w168_99, w168_100, w168_101, w168_105, w168_106, w168_109, w168_110, w168_111, w168_114, w168_115, w168_118, w168_121, w168_124, w168_126, w168_127, w168_128, w168_130, w168_131, w168_133, w168_134, w168_136, w168_137, w168_138, w168_139, w168_142, w168_145, w168_146, w168_149, w168_150, w168_151, w168_152, w168_153, w168_154, w168_155, w168_157, tc97, tr97_0, tr97_1, tr97_2, tr97_6, tr97_7, tr97_8, tr97_9, tr97_10, tr97_11, tr97_12, tr97_22, tr97_23, tr97_25, tr97_26, tr97_30, tr97_31, tr97_32, tr97_33, tr97_35, tr97_36, tr97_37, tr97_38, tr97_40, tr97_41, tr97_42, tr97_43, tr97_44, tr97_45, tr97_46, tr97_47, tr97_48, tr97_49, tr97_50, tr97_51, tr97_52, tr97_53, tr97_54, tr97_55, tr97_56, tr97_57, tr97_58, tr97_59, tr97_60, tr97_61, ta98, tn98, ta99, tn99, ta100, tn100, ta101, tn101, ta102, tn102, ta103, tn103, ta104, tn104, ta105, tn105, ta106, tn106, ta107, tn107, ta108, tn108, ta109, tn109, ta110, tn110, ta111, tn111, ta112, tn112, ta113, tn113, ta114, tn114, ta115, tn115, ta116, tn116, ta117, tn117, ta118, tn118, ta119, tn119, ta120, tn120, ta121, tn121, ta122, tn122, ta123, tn123, ta124, tn124, ta125, tn125, ta126, tn126, ta127, tn127, ta128, tn128, ta129, tn129, ta130, tn130, ta131, tn131, ta132, tn132, ta133, tn133, ta134, tn134, ta135, tn135, ta136, tn136, ta137, tn137, ta138, tn138, ta139, tn139, ta140, tn140, ta141, tn141, xLoad_i, xLoad_l, xLoad_r, xInc_s, xBr_t, xBr_f, xNz_s, xGf_s, xPf_s, xPz_s, xLd_2, xLd_7, xLd_10, xLdb_3, xLdb_5, xLdb_9, xLdl_4, xLdr_6, xSt_2, xStl_4, xStb_3, xStb_5, xLen_s, xLen_10, xCpy_s, xIv_s, xMx_s, mCont_s, mCont_n, w32_s, w64_s, upC_e, upC_n, upC_u, upC_c, mEn_c, mEn_n, mcw_i, mcw_l, mcw_r, mcat_n, mcat_i, mcat_l, mcat_r, xlong_i, xlong_l, xlong_r, xlong_n, s1_at, s2_at, ↓reduceIte, reduceCtorEq, and_self, true_and, and_true, false_and, and_false, Bool.false_eq_true, ne_eq, not_true_eq_false, not_false_eq_true, or_true, true_or, or_false, false_or, or_self, Int.tmod_eq_emod_of_nonneg, Int.tdiv_eq_ediv_of_nonneg, Classical.not_not, xSw, rOK, b2i_ok, b2i_0, b2i_1, Nat.reduceAdd, Nat.reduceSub, Nat.reduceMul, Nat.reduceEqDiff, Nat.reduceLeDiff, Nat.reduceLT, Int.reduceAdd, Int.reduceSub, Int.reduceMul, Int.reduceNeg, Int.reduceEq, Int.reduceNe, Int.reduceLT, Int.reduceLE, Int.reduceToNat, Int.reduceTDiv, Int.reduceTMod, b2i_em, r_in, b2i_t]
    have e12 : 22 + 3 * M 98 1 + 1 = 23 + 3 * M 98 1 := by omega
    have e13 : 22 + 3 * M 98 1 + 2 = 24 + 3 * M 98 1 := by omega
    (try rw [e12, e13])
    refine loopL (P := fun j lv M' => M' = upC M 98 (fun i => if (300 ≤ i ∧ i < 300 + 212 * (j : Nat)) ∧ (i - 300) % 212 = 27 + M 98 1 then -1 else mU (mU (mU (mU (M 98) (22 + 3 * M 98 1) w) (23 + 3 * M 98 1) k) (24 + 3 * M 98 1) p) (107 + M 98 1) (-1) i) ∧ lv 0 = some (vr 97) ∧ lv 1 = some (vi w) ∧ lv 2 = some (vi k) ∧ lv 3 = some (vi p) ∧ lv 4 = some (vi (M 98 1)) ∧ lv 5 = some (vi (j : Nat))) (G := fun lv M' => rn (d + 1) 168 K 103 lv [] M') (M 98 4).toNat 0 (Nat.zero_le _) _ _ ⟨?_, ?_, ?_, ?_, ?_, ?_, ?_⟩ (fun j hj ih lv M' h => ?_) (fun lv M' h => ?_)
    any_goals (simp [s1_at, s2_at, mEn_c, mcw_r, mcw_i, mcw_l, xlong_i, xlong_r, xlong_l, xlong_n]; done)
    · refine congrArg (upC M 98) ?_
      funext i
      rw [if_neg (by omega)]
    · obtain ⟨rfl, g0, g1, g2, g3, g4, g5⟩ := h
      have e4 : (if (300 ≤ 4 ∧ 4 < 300 + 212 * (j : Int)) ∧ ((4 : Int) - 300) % 212 = 27 + M 98 1 then -1 else mU (mU (mU (mU (M 98) (22 + 3 * M 98 1) w) (23 + 3 * M 98 1) k) (24 + 3 * M 98 1) p) (107 + M 98 1) (-1) 4) = M 98 4 := by rw [if_neg (by omega)]; simp (disch := first | decide | omega) only [upC_e, upC_n, mU_e, mU_n]
      rw [w168_103]
      simp (disch := first | decide | omega) only [b168, w168_0, w168_1, w168_4, w168_5, w168_6, w168_8, w168_9, w168_10, w168_12, w168_15, w168_18, w168_19, w168_20, w168_21, w168_24, w168_27, w168_28, w168_29, w168_31, w168_34, w168_37, w168_39, w168_41, w168_44, w168_45, w168_46, w168_47, w168_50, w168_52, w168_53, w168_55, w168_56, w168_57, w168_58, w168_59, w168_60, w168_63, w168_65, w168_66, w168_68, w168_69, w168_70, w168_71, w168_72, w168_73, w168_74, w168_75, w168_78, w168_80, w168_81, w168_83, w168_84, w168_85, w168_86, w168_87, w168_88, w168_89, w168_90, w168_93, w168_95, w168_97, w168_98, w168_99, w168_100, w168_101, w168_105, w168_106, w168_109, w168_110, w168_111, w168_114, w168_115, w168_118, w168_121, w168_124, w168_126, w168_127, w168_128, w168_130, w168_131, w168_133, w168_134, w168_136, w168_137, w168_138, w168_139, w168_142, w168_145, w168_146, w168_149, w168_150, w168_151, w168_152, w168_153, w168_154, w168_155, w168_157, tc97, tr97_0, tr97_1, tr97_2, tr97_6, tr97_7, tr97_8, tr97_9, tr97_10, tr97_11, tr97_12, tr97_22, tr97_23, tr97_25, tr97_26, tr97_30, tr97_31, tr97_32, tr97_33, tr97_35, tr97_36, tr97_37, tr97_38, tr97_40, tr97_41, tr97_42, tr97_43, tr97_44, tr97_45, tr97_46, tr97_47, tr97_48, tr97_49, tr97_50, tr97_51, tr97_52, tr97_53, tr97_54, tr97_55, tr97_56, tr97_57, tr97_58, tr97_59, tr97_60, tr97_61, ta98, tn98, ta99, tn99, ta100, tn100, ta101, tn101, ta102, tn102, ta103, tn103, ta104, tn104, ta105, tn105, ta106, tn106, ta107, tn107, ta108, tn108, ta109, tn109, ta110, tn110, ta111, tn111, ta112, tn112, ta113, tn113, ta114, tn114, ta115, tn115, ta116, tn116, ta117, tn117, ta118, tn118, ta119, tn119, ta120, tn120, ta121, tn121, ta122, tn122, ta123, tn123, ta124, tn124, ta125, tn125, ta126, tn126, ta127, tn127, ta128, tn128, ta129, tn129, ta130, tn130, ta131, tn131, ta132, tn132, ta133, tn133, ta134, tn134, ta135, tn135, ta136, tn136, ta137, tn137, ta138, tn138, ta139, tn139, ta140, tn140, ta141, tn141, xLoad_i, xLoad_l, xLoad_r, xInc_s, xBr_t, xBr_f, xNz_s, xGf_s, xPf_s, xPz_s, xLd_2, xLd_7, xLd_10, xLdb_3, xLdb_5, xLdb_9, xLdl_4, xLdr_6, xSt_2, xStl_4, xStb_3, xStb_5, xLen_s, xLen_10, xCpy_s, xIv_s, xMx_s, mCont_s, mCont_n, w32_s, w64_s, upC_e, upC_n, upC_u, upC_c, mEn_c, mEn_n, mcw_i, mcw_l, mcw_r, mcat_n, mcat_i, mcat_l, mcat_r, xlong_i, xlong_l, xlong_r, xlong_n, s1_at, s2_at, ↓reduceIte, reduceCtorEq, and_self, true_and, and_true, false_and, and_false, Bool.false_eq_true, ne_eq, not_true_eq_false, not_false_eq_true, or_true, true_or, or_false, false_or, or_self, Int.tmod_eq_emod_of_nonneg, Int.tdiv_eq_ediv_of_nonneg, Classical.not_not, xSw, rOK, b2i_ok, b2i_0, b2i_1, Nat.reduceAdd, Nat.reduceSub, Nat.reduceMul, Nat.reduceEqDiff, Nat.reduceLeDiff, Nat.reduceLT, Int.reduceAdd, Int.reduceSub, Int.reduceMul, Int.reduceNeg, Int.reduceEq, Int.reduceNe, Int.reduceLT, Int.reduceLE, Int.reduceToNat, Int.reduceTDiv, Int.reduceTMod, b2i_em, g0, g1, g2, g3, g4, g5, e4]
      refine ih _ _ ⟨?_, ?_, ?_, ?_, ?_, ?_, ?_⟩
      any_goals (simp [s1_at, s2_at, mEn_c, mcw_r, mcw_i, mcw_l, xlong_i, xlong_r, xlong_l, xlong_n, g0, g1, g2, g3, g4, g5]; done)
      refine congrArg (upC M 98) ?_
      funext i
      show (if i = _ then -1 else (if (300 ≤ i ∧ i < 300 + 212 * (j : Int)) ∧ (i - 300) % 212 = 27 + M 98 1 then -1 else _)) = _
      by_cases h1 : (300 ≤ i ∧ i < 300 + 212 * (j : Int)) ∧ (i - 300) % 212 = 27 + M 98 1
      · rw [if_pos h1, ite_self, if_pos (by omega)]
      · rw [if_neg h1]
        exact ite_c (fun w => by omega) (fun w => by omega) rfl rfl
    · obtain ⟨rfl, g0, g1, g2, g3, g4, g5⟩ := h
      have e4 : (if (300 ≤ 4 ∧ 4 < 300 + 212 * ((M 98 4).toNat : Int)) ∧ ((4 : Int) - 300) % 212 = 27 + M 98 1 then -1 else mU (mU (mU (mU (M 98) (22 + 3 * M 98 1) w) (23 + 3 * M 98 1) k) (24 + 3 * M 98 1) p) (107 + M 98 1) (-1) 4) = M 98 4 := by rw [if_neg (by omega)]; simp (disch := first | decide | omega) only [upC_e, upC_n, mU_e, mU_n]
      have e1 : (if (300 ≤ 1 ∧ 1 < 300 + 212 * ((M 98 4).toNat : Int)) ∧ ((1 : Int) - 300) % 212 = 27 + M 98 1 then -1 else mU (mU (mU (mU (M 98) (22 + 3 * M 98 1) w) (23 + 3 * M 98 1) k) (24 + 3 * M 98 1) p) (107 + M 98 1) (-1) 1) = M 98 1 := by rw [if_neg (by omega)]; simp (disch := first | decide | omega) only [upC_e, upC_n, mU_e, mU_n]
      rw [w168_103]
      simp (disch := first | decide | omega) only [b168, w168_0, w168_1, w168_4, w168_5, w168_6, w168_8, w168_9, w168_10, w168_12, w168_15, w168_18, w168_19, w168_20, w168_21, w168_24, w168_27, w168_28, w168_29, w168_31, w168_34, w168_37, w168_39, w168_41, w168_44, w168_45, w168_46, w168_47, w168_50, w168_52, w168_53, w168_55, w168_56, w168_57, w168_58, w168_59, w168_60, w168_63, w168_65, w168_66, w168_68, w168_69, w168_70, w168_71, w168_72, w168_73, w168_74, w168_75, w168_78, w168_80, w168_81, w168_83, w168_84, w168_85, w168_86, w168_87, w168_88, w168_89, w168_90, w168_93, w168_95, w168_97, w168_98, w168_99, w168_100, w168_101, w168_105, w168_106, w168_109, w168_110, w168_111, w168_114, w168_115, w168_118, w168_121, w168_124, w168_126, w168_127, w168_128, w168_130, w168_131, w168_133, w168_134, w168_136, w168_137, w168_138, w168_139, w168_142, w168_145, w168_146, w168_149, w168_150, w168_151, w168_152, w168_153, w168_154, w168_155, w168_157, tc97, tr97_0, tr97_1, tr97_2, tr97_6, tr97_7, tr97_8, tr97_9, tr97_10, tr97_11, tr97_12, tr97_22, tr97_23, tr97_25, tr97_26, tr97_30, tr97_31, tr97_32, tr97_33, tr97_35, tr97_36, tr97_37, tr97_38, tr97_40, tr97_41, tr97_42, tr97_43, tr97_44, tr97_45, tr97_46, tr97_47, tr97_48, tr97_49, tr97_50, tr97_51, tr97_52, tr97_53, tr97_54, tr97_55, tr97_56, tr97_57, tr97_58, tr97_59, tr97_60, tr97_61, ta98, tn98, ta99, tn99, ta100, tn100, ta101, tn101, ta102, tn102, ta103, tn103, ta104, tn104, ta105, tn105, ta106, tn106, ta107, tn107, ta108, tn108, ta109, tn109, ta110, tn110, ta111, tn111, ta112, tn112, ta113, tn113, ta114, tn114, ta115, tn115, ta116, tn116, ta117, tn117, ta118, tn118, ta119, tn119, ta120, tn120, ta121, tn121, ta122, tn122, ta123, tn123, ta124, tn124, ta125, tn125, ta126, tn126, ta127, tn127, ta128, tn128, ta129, tn129, ta130, tn130, ta131, tn131, ta132, tn132, ta133, tn133, ta134, tn134, ta135, tn135, ta136, tn136, ta137, tn137, ta138, tn138, ta139, tn139, ta140, tn140, ta141, tn141, xLoad_i, xLoad_l, xLoad_r, xInc_s, xBr_t, xBr_f, xNz_s, xGf_s, xPf_s, xPz_s, xLd_2, xLd_7, xLd_10, xLdb_3, xLdb_5, xLdb_9, xLdl_4, xLdr_6, xSt_2, xStl_4, xStb_3, xStb_5, xLen_s, xLen_10, xCpy_s, xIv_s, xMx_s, mCont_s, mCont_n, w32_s, w64_s, upC_e, upC_n, upC_u, upC_c, mEn_c, mEn_n, mcw_i, mcw_l, mcw_r, mcat_n, mcat_i, mcat_l, mcat_r, xlong_i, xlong_l, xlong_r, xlong_n, s1_at, s2_at, ↓reduceIte, reduceCtorEq, and_self, true_and, and_true, false_and, and_false, Bool.false_eq_true, ne_eq, not_true_eq_false, not_false_eq_true, or_true, true_or, or_false, false_or, or_self, Int.tmod_eq_emod_of_nonneg, Int.tdiv_eq_ediv_of_nonneg, Classical.not_not, xSw, rOK, b2i_ok, b2i_0, b2i_1, Nat.reduceAdd, Nat.reduceSub, Nat.reduceMul, Nat.reduceEqDiff, Nat.reduceLeDiff, Nat.reduceLT, Int.reduceAdd, Int.reduceSub, Int.reduceMul, Int.reduceNeg, Int.reduceEq, Int.reduceNe, Int.reduceLT, Int.reduceLE, Int.reduceToNat, Int.reduceTDiv, Int.reduceTMod, b2i_em, g0, g1, g2, g3, g4, g5, e4, e1]
      unfold ldA at hy2
      have e00 := a1 id
      rw [show ((M 98 4).toNat : Int) = M 98 4 by omega]
      first | exact hy2 | (rw [e00]; exact hy2)
  · have hn2 := hn c
    unfold cLd at c
    repeat' first | (simp (disch := first | decide | omega) only [b168, w168_0, w168_1, w168_4, w168_5, w168_6, w168_8, w168_9, w168_10, w168_12, w168_15, w168_18, w168_19, w168_20, w168_21, w168_24, w168_27, w168_28, w168_29, w168_31, w168_34, w168_37, w168_39, w168_41, w168_44, w168_45, w168_46, w168_47, w168_50, w168_52, w168_53, w168_55, w168_56, w168_57, w168_58, w168_59, w168_60, w168_63, w168_65, w168_66, w168_68, w168_69, w168_70, w168_71, w168_72, w168_73, w168_74, w168_75, w168_78, w168_80, w168_81, w168_83, w168_84, w168_85, w168_86, w168_87, w168_88, w168_89, w168_90, w168_93, w168_95, w168_97, w168_98, w168_99, w168_100, w168_101, w168_105, w168_106, w168_109, w168_110, w168_111, w168_114, w168_115, w168_118, w168_121, w168_124, w168_126, w168_127, w168_128, w168_130, w168_131, w168_133, w168_134, w168_136, w168_137, w168_138, w168_139, w168_142, w168_145, w168_146, w168_149, w168_150, w168_151, w168_152, w168_153, w168_154, w168_155, w168_157, tc97, tr97_0, tr97_1, tr97_2, tr97_6, tr97_7, tr97_8, tr97_9, tr97_10, tr97_11, tr97_12, tr97_22, tr97_23, tr97_25, tr97_26, tr97_30, tr97_31, tr97_32, tr97_33, tr97_35, tr97_36, tr97_37, tr97_38, tr97_40, tr97_41, tr97_42, tr97_43, tr97_44, tr97_45, tr97_46, tr97_47, tr97_48, tr97_49, tr97_50, tr97_51, tr97_52, tr97_53, tr97_54, tr97_55, tr97_56, tr97_57, tr97_58, tr97_59, tr97_60, tr97_61, ta98, tn98, ta99, tn99, ta100, tn100, ta101, tn101, ta102, tn102, ta103, tn103, ta104, tn104, ta105, tn105, ta106, tn106, ta107, tn107, ta108, tn108, ta109, tn109, ta110, tn110, ta111, tn111, ta112, tn112, ta113, tn113, ta114, tn114, ta115, tn115, ta116, tn116, ta117, tn117, ta118, tn118, ta119, tn119, ta120, tn120, ta121, tn121, ta122, tn122, ta123, tn123, ta124, tn124, ta125, tn125, ta126, tn126, ta127, tn127, ta128, tn128, ta129, tn129, ta130, tn130, ta131, tn131, ta132, tn132, ta133, tn133, ta134, tn134, ta135, tn135, ta136, tn136, ta137, tn137, ta138, tn138, ta139, tn139, ta140, tn140, ta141, tn141, xLoad_i, xLoad_l, xLoad_r, xInc_s, xBr_t, xBr_f, xNz_s, xGf_s, xPf_s, xPz_s, xLd_2, xLd_7, xLd_10, xLdb_3, xLdb_5, xLdb_9, xLdl_4, xLdr_6, xSt_2, xStl_4, xStb_3, xStb_5, xLen_s, xLen_10, xCpy_s, xIv_s, xMx_s, mCont_s, mCont_n, w32_s, w64_s, upC_e, upC_n, upC_u, upC_c, mEn_c, mEn_n, mcw_i, mcw_l, mcw_r, mcat_n, mcat_i, mcat_l, mcat_r, xlong_i, xlong_l, xlong_r, xlong_n, s1_at, s2_at, ↓reduceIte, reduceCtorEq, and_self, true_and, and_true, false_and, and_false, Bool.false_eq_true, ne_eq, not_true_eq_false, not_false_eq_true, or_true, true_or, or_false, false_or, or_self, Int.tmod_eq_emod_of_nonneg, Int.tdiv_eq_ediv_of_nonneg, Classical.not_not, xSw, rOK, b2i_ok, b2i_0, b2i_1, Nat.reduceAdd, Nat.reduceSub, Nat.reduceMul, Nat.reduceEqDiff, Nat.reduceLeDiff, Nat.reduceLT, Int.reduceAdd, Int.reduceSub, Int.reduceMul, Int.reduceNeg, Int.reduceEq, Int.reduceNe, Int.reduceLT, Int.reduceLE, Int.reduceToNat, Int.reduceTDiv, Int.reduceTMod, b2i_em, r_in]) | refine xBr_in (fun _ => ?_) (fun _ => ?_) | refine xBr_i (fun _ => ?_) (fun _ => ?_)
    all_goals first | exact hn2 | (exfalso; omega)
set_option maxHeartbeats 1000000 in
theorem op_load {w k p : Int} : OPJ 118 168 [vi w, vi k, vi p] := by
  intro S d M lw h K hK
  have hJ := h
  obtain ⟨k1, k2, k3, k4, k5, k6, k7⟩ := h
  obtain ⟨b0, b1, b4, hws, hwd, hfw, h81⟩ := J_b hJ
  have e1 : M 2 1 = M 98 1 := k1.1.2.1
  by_cases c0 : cLd w k p (M 98 1)
  · have c : (1 ≤ w ∧ w ≤ 60) ∧ (0 ≤ k ∧ k ≤ 5) ∧ (0 ≤ p ∧ p ≤ 99) ∧ M 98 1 ≠ 12 := c0
    simp (disch := first | decide | omega) only [b118, w118_0, w118_1, w118_2, w118_4, w118_7, w118_10, w118_11, w118_12, w118_13, w118_16, w118_19, w118_20, w118_21, w118_23, w118_26, w118_29, w118_30, w118_31, w118_32, w118_35, w118_38, w118_40, w118_43, w118_44, w118_45, w118_46, w118_49, w118_50, w118_51, w118_52, w118_55, tc1, tr1_0, tr1_1, tr1_2, tr1_3, tr1_4, tr1_5, tr1_6, tr1_7, tr1_8, tr1_9, tr1_10, tr1_11, tc2, tr2_2, tr2_3, tr2_4, tr2_5, tr2_6, tr2_7, tr2_8, tr2_9, tr2_12, tr2_13, tr2_15, ta3, tn3, ta4, tn4, ta5, tn5, ta6, tn6, ta7, tn7, ta8, tn8, ta9, tn9, ta10, tn10, ta11, tn11, ta12, tn12, ta13, tn13, xLoad_i, xLoad_l, xLoad_r, xInc_s, xBr_t, xBr_f, xNz_s, xGf_s, xPf_s, xPz_s, xLd_2, xLd_7, xLd_10, xLdb_3, xLdb_5, xLdb_9, xLdl_4, xLdr_6, xSt_2, xStl_4, xStb_3, xStb_5, xLen_s, xLen_10, xCpy_s, xIv_s, xMx_s, mCont_s, mCont_n, w32_s, w64_s, upC_e, upC_n, upC_u, upC_c, mEn_c, mEn_n, mcw_i, mcw_l, mcw_r, mcat_n, mcat_i, mcat_l, mcat_r, xlong_i, xlong_l, xlong_r, xlong_n, s1_at, s2_at, ↓reduceIte, reduceCtorEq, and_self, true_and, and_true, false_and, and_false, Bool.false_eq_true, ne_eq, not_true_eq_false, not_false_eq_true, or_true, true_or, or_false, false_or, or_self, Int.tmod_eq_emod_of_nonneg, Int.tdiv_eq_ediv_of_nonneg, Classical.not_not, xSw, rOK, b2i_ok, b2i_0, b2i_1, Nat.reduceAdd, Nat.reduceSub, Nat.reduceMul, Nat.reduceEqDiff, Nat.reduceLeDiff, Nat.reduceLT, Int.reduceAdd, Int.reduceSub, Int.reduceMul, Int.reduceNeg, Int.reduceEq, Int.reduceNe, Int.reduceLT, Int.reduceLE, Int.reduceToNat, Int.reduceTDiv, Int.reduceTMod, b2i_em, c_outside, b2i_f, e1]
    rw [c_addLoad (by omega), e1]
    simp (disch := first | decide | omega) only [b118, w118_0, w118_1, w118_2, w118_4, w118_7, w118_10, w118_11, w118_12, w118_13, w118_16, w118_19, w118_20, w118_21, w118_23, w118_26, w118_29, w118_30, w118_31, w118_32, w118_35, w118_38, w118_40, w118_43, w118_44, w118_45, w118_46, w118_49, w118_50, w118_51, w118_52, w118_55, tc1, tr1_0, tr1_1, tr1_2, tr1_3, tr1_4, tr1_5, tr1_6, tr1_7, tr1_8, tr1_9, tr1_10, tr1_11, tc2, tr2_2, tr2_3, tr2_4, tr2_5, tr2_6, tr2_7, tr2_8, tr2_9, tr2_12, tr2_13, tr2_15, ta3, tn3, ta4, tn4, ta5, tn5, ta6, tn6, ta7, tn7, ta8, tn8, ta9, tn9, ta10, tn10, ta11, tn11, ta12, tn12, ta13, tn13, xLoad_i, xLoad_l, xLoad_r, xInc_s, xBr_t, xBr_f, xNz_s, xGf_s, xPf_s, xPz_s, xLd_2, xLd_7, xLd_10, xLdb_3, xLdb_5, xLdb_9, xLdl_4, xLdr_6, xSt_2, xStl_4, xStb_3, xStb_5, xLen_s, xLen_10, xCpy_s, xIv_s, xMx_s, mCont_s, mCont_n, w32_s, w64_s, upC_e, upC_n, upC_u, upC_c, mEn_c, mEn_n, mcw_i, mcw_l, mcw_r, mcat_n, mcat_i, mcat_l, mcat_r, xlong_i, xlong_l, xlong_r, xlong_n, s1_at, s2_at, ↓reduceIte, reduceCtorEq, and_self, true_and, and_true, false_and, and_false, Bool.false_eq_true, ne_eq, not_true_eq_false, not_false_eq_true, or_true, true_or, or_false, false_or, or_self, Int.tmod_eq_emod_of_nonneg, Int.tdiv_eq_ediv_of_nonneg, Classical.not_not, xSw, rOK, b2i_ok, b2i_0, b2i_1, Nat.reduceAdd, Nat.reduceSub, Nat.reduceMul, Nat.reduceEqDiff, Nat.reduceLeDiff, Nat.reduceLT, Int.reduceAdd, Int.reduceSub, Int.reduceMul, Int.reduceNeg, Int.reduceEq, Int.reduceNe, Int.reduceLT, Int.reduceLE, Int.reduceToNat, Int.reduceTDiv, Int.reduceTMod, b2i_em]
    obtain ⟨L, hL⟩ := Int.eq_ofNat_of_zero_le b1.1
    have hL12 : L < 12 := by omega
    generalize hM1 : upC (upC (upC (upC M 2 (mU (M 2) 1 (M 98 1 + 1))) 6 (mU (M 6) (M 98 1) w)) 7 (mU (M 7) (M 98 1) k)) 8 (mU (M 8) (M 98 1) p) = M1
    have m98 : M1 98 = M 98 := by rw [← hM1]; simp (disch := first | decide | omega) only [upC_e, upC_n, mU_e, mU_n]
    have f1 : fr [2, 6, 7, 8] M M1 := by rw [← hM1]; (repeat (first | exact fr_refl | assumption | refine fr_up (by decide) ?_))
    have m2 : M1 2 = mU (M 2) 1 (L + 1) := by rw [← hM1, hL]; simp (disch := first | decide | omega) only [upC_e, upC_n, mU_e, mU_n]
    have m6 : M1 6 = mU (M 6) L w := by rw [← hM1, hL]; simp (disch := first | decide | omega) only [upC_e, upC_n, mU_e, mU_n]
    have m7 : M1 7 = mU (M 7) L k := by rw [← hM1, hL]; simp (disch := first | decide | omega) only [upC_e, upC_n, mU_e, mU_n]
    have m8 : M1 8 = mU (M 8) L p := by rw [← hM1, hL]; simp (disch := first | decide | omega) only [upC_e, upC_n, mU_e, mU_n]
    refine hK _ _ (fun K2 hK2 => r_load (by rw [m98]; exact b1) (by rw [m98]; exact b4) (fun _ => ?_) (fun c2 => absurd c0 (by rw [m98] at c2; exact c2)))
    rw [m98]
    generalize hA : M 98 = A at *
    have a1 : ldA A w k p 1 = L + 1 := by unfold ldA; rw [mU_e, hL]
    have alo : ∀ i : Int, i < 300 → i ≠ 1 → ldA A w k p i = mU (mU (mU (mU A (22 + 3 * L) w) (23 + 3 * L) k) (24 + 3 * L) p) (107 + L) (-1) i := by
      intro i hi h0
      unfold ldA
      rw [mU_n h0, hL]
      exact if_neg (by omega)
    have aeq : ∀ i : Int, i < 300 → i ≠ 1 → i ≠ 22 + 3 * L → i ≠ 23 + 3 * L → i ≠ 24 + 3 * L → i ≠ 107 + L → ldA A w k p i = A i := by
      intro i hi h0 h1 h2 h3 h4
      rw [alo i hi h0, mU_n h4, mU_n h3, mU_n h2, mU_n h1]
    have a22 : ldA A w k p (22 + 3 * L) = w := by rw [alo _ (by omega) (by omega), mU_n (by omega), mU_n (by omega), mU_n (by omega), mU_e]
    have a23 : ldA A w k p (23 + 3 * L) = k := by rw [alo _ (by omega) (by omega), mU_n (by omega), mU_n (by omega), mU_e]
    have a24 : ldA A w k p (24 + 3 * L) = p := by rw [alo _ (by omega) (by omega), mU_n (by omega), mU_e]
    have a107 : ldA A w k p (107 + L) = -1 := by rw [alo _ (by omega) (by omega), mU_e]
    have ahi : ∀ (j : Nat) (i : Int), (j : Int) < A 4 → 80 ≤ i → i < 292 → ldA A w k p (300 + 212 * j + (i - 80)) = if i = 107 + L then -1 else A (300 + 212 * j + (i - 80)) := by
      intro j i hj h1 h2
      unfold ldA
      rw [mU_n (by omega), hL]
      show (if _ then _ else _) = _
      rw [mU_n (by omega), mU_n (by omega), mU_n (by omega), mU_n (by omega)]
      exact ite_c (fun w => by omega) (fun w => by omega) rfl rfl
    have hvw : ∀ (j : Nat), (j : Int) < A 4 → ∀ i : Int, 0 ≤ i → i < 292 → i ≠ 1 → i < 22 ∨ 58 ≤ i → i ≠ 107 + L → vw (ldA A w k p) (300 + 212 * j) i = vw A (300 + 212 * j) i := by
      intro j hj i h0 h1 h2 h3 h4
      unfold vw
      by_cases g : i < 80
      · rw [if_pos g, if_pos g, aeq i (by omega) h2 (by omega) (by omega) (by omega) h4]
      · rw [if_neg g, if_neg g, ahi j i hj (by omega) h1, if_neg h4]
    have hWD : ∀ V W : Int → Int, V 1 = L → WD V → W 1 = L + 1 → W (107 + L) = -1 → (∀ i : Int, 0 ≤ i → i < 292 → i ≠ 1 → i < 22 ∨ 58 ≤ i → i ≠ 107 + L → W i = V i) → WD W := by
      intro V W v1 hV w1 w107 hW
      obtain ⟨p1, p2, p3, p4, p5⟩ := hV
      have w0 : W 0 = V 0 := hW 0 (by decide) (by decide) (by decide) (by omega) (by omega)
      unfold WD
      rw [hW 80 (by decide) (by decide) (by decide) (by omega) (by omega), hW 81 (by decide) (by decide) (by decide) (by omega) (by omega), hW 82 (by decide) (by decide) (by decide) (by omega) (by omega), w0, w1]
      refine ⟨p1, p2, p3, fun b hb => ?_, fun l hl => ?_⟩
      · rw [hW (83 + b) (by omega) (by omega) (by omega) (by omega) (by omega), hW (89 + b) (by omega) (by omega) (by omega) (by omega) (by omega), hW (95 + b) (by omega) (by omega) (by omega) (by omega) (by omega), hW (101 + b) (by omega) (by omega) (by omega) (by omega) (by omega)]
        exact p4 b hb
      · have q := p5 l hl
        rw [hW (119 + l) (by omega) (by omega) (by omega) (by omega) (by omega)]
        rw [v1] at q
        by_cases e : l = L
        · subst e
          have q2 := q.2.2.2.2.2.2 (Int.le_refl _)
          rw [w107]
          exact ⟨by omega, by omega, fun _ x => by omega, by omega, by omega, fun _ _ => q2, fun x => by omega⟩
        · rw [hW (107 + l) (by omega) (by omega) (by omega) (by omega) (by omega)]
          refine ⟨q.1, q.2.1, fun x y z => ?_, q.2.2.2.1, q.2.2.2.2.1, fun x => q.2.2.2.2.2.1 (by omega), fun x => q.2.2.2.2.2.2 (by omega)⟩
          rw [hW (10 + V (107 + l)) (by omega) (by omega) (by omega) (by omega) (by omega)]
          exact q.2.2.1 (by omega) y z
    refine hK2 _ lw (J_step hJ (fr_mono f1 (by decide)) ?_ (by rw [f1 63 (by decide)]; exact k6) (fr_in (k := 98) (by decide)) (fun i _ => by rw [upC_n (by decide)]) (by rw [upC_e, hA, aeq 2 (by decide) (by decide) (by omega) (by omega) (by omega) (by omega)]))
    rw [upC_e]
    obtain ⟨q1, q2, q3, q4, q5, q6⟩ := k1
    have ax : ∀ i : Int, i < 300 → i ≠ 1 → i < 22 ∨ 58 ≤ i → i ≠ 107 + L → ldA A w k p i = A i := fun i x y z u => aeq i x y (by omega) (by omega) (by omega) u
    refine ⟨?_, ⟨?_, ?_, ?_⟩, ?_, ⟨?_, ?_, ?_⟩, ?_, ?_⟩
    · refine ⟨by rw [m2, mU_n (by decide), ax 0 (by decide) (by decide) (by omega) (by omega)]; exact q1.1, by rw [m2, mU_e, a1], fun b hb => ?_, fun l hl => ?_⟩
      · rw [f1 (2 + 2) (by decide), f1 (2 + 3) (by decide), ax (10 + b) (by omega) (by omega) (by omega) (by omega), ax (16 + b) (by omega) (by omega) (by omega) (by omega)]
        exact q1.2.2.1 b hb
      · rw [show 2 + 4 = 6 from rfl, show 2 + 5 = 7 from rfl, show 2 + 6 = 8 from rfl, m6, m7, m8]
        by_cases e : l = L
        · subst e
          rw [mU_e, mU_e, mU_e, a22, a23, a24]
          exact ⟨rfl, rfl, rfl⟩
        · rw [mU_n (by omega), mU_n (by omega), mU_n (by omega), aeq (22 + 3 * l) (by omega) (by omega) (by omega) (by omega) (by omega) (by omega), aeq (23 + 3 * l) (by omega) (by omega) (by omega) (by omega) (by omega) (by omega), aeq (24 + 3 * l) (by omega) (by omega) (by omega) (by omega) (by omega) (by omega)]
          exact q1.2.2.2 l hl
    · have q := q2.1
      rw [f1 (2 + 7) (by decide)]
      unfold RD at q ⊢
      rw [a1, ax 80 (by decide) (by decide) (by omega) (by omega), ax 82 (by decide) (by decide) (by omega) (by omega)]
      refine ⟨fun b hb => ?_, fun l hl => ?_, q.2.2⟩
      · rw [ax (83 + b) (by omega) (by omega) (by omega) (by omega), ax (89 + b) (by omega) (by omega) (by omega) (by omega), ax (95 + b) (by omega) (by omega) (by omega) (by omega), ax (101 + b) (by omega) (by omega) (by omega) (by omega)]
        exact q.1 b hb
      · have u := q.2.1 l hl
        rw [hL] at u
        rw [ax (119 + l) (by omega) (by omega) (by omega) (by omega)]
        by_cases e : l = L
        · subst e
          rw [a107]
          exact ⟨fun _ => u.2.1 (Int.le_refl _), fun x => by omega, u.2.2⟩
        · rw [ax (107 + l) (by omega) (by omega) (by omega) (by omega)]
          exact ⟨fun x => u.1 (by omega), fun x => u.2.1 (by omega), u.2.2⟩
    · rw [f1 (2 + 7) (by decide), ax 81 (by decide) (by decide) (by omega) (by omega)]
      exact q2.2.1
    · rw [f1 (2 + 7) (by decide)]
      exact RF_h q4.2.2.1 (fun i h1 h2 => rfl) (fun i h1 h2 => (ax i (by omega) (by omega) (by omega) (by omega)).symm) q2.2.2
    · unfold WS at q3 ⊢
      rw [a1, ax 0 (by decide) (by decide) (by omega) (by omega)]
      refine ⟨q3.1, by omega, fun b hb => ?_, fun l hl => ?_, fun p q hp hq => ?_⟩
      · rw [ax (10 + b) (by omega) (by omega) (by omega) (by omega), ax (16 + b) (by omega) (by omega) (by omega) (by omega)]
        exact q3.2.2.1 b hb
      · by_cases e : l = L
        · subst e
          rw [a22, a23, a24]
          omega
        · rw [aeq (22 + 3 * l) (by omega) (by omega) (by omega) (by omega) (by omega) (by omega), aeq (23 + 3 * l) (by omega) (by omega) (by omega) (by omega) (by omega) (by omega), aeq (24 + 3 * l) (by omega) (by omega) (by omega) (by omega) (by omega) (by omega)]
          exact q3.2.2.2.1 l hl
      · rw [ax (16 + p) (by omega) (by omega) (by omega) (by omega), ax (16 + q) (by omega) (by omega) (by omega) (by omega)]
        exact q3.2.2.2.2 p q hp hq
    · exact hWD A _ hL hwd a1 a107 (fun i _ hi h2 h3 h4 => ax i (by omega) h2 h3 h4)
    · rw [ax 81 (by decide) (by decide) (by omega) (by omega)]; exact h81
    · exact FW_h (fun i h1 h2 => (ax i (by omega) (by omega) (by omega) (by omega)).symm) hfw
    · refine ⟨by rw [m2, mU_n (by decide), ax 4 (by decide) (by decide) (by omega) (by omega)]; exact q5.1, by rw [ax 4 (by decide) (by decide) (by omega) (by omega)]; exact q5.2.1, by rw [m2, mU_n (by decide)]; exact q5.2.2.1, fun j hj => ?_⟩
      rw [ax 4 (by decide) (by decide) (by omega) (by omega)] at hj
      obtain ⟨u, v⟩ := q5.2.2.2 j hj
      have hv := hvw j hj
      have w1 : vw (ldA A w k p) (300 + 212 * j) 1 = L + 1 := by unfold vw; rw [if_pos (by decide), a1]
      have o1 : vw A (300 + 212 * j) 1 = L := by unfold vw; rw [if_pos (by decide), hL]
      have w107 : vw (ldA A w k p) (300 + 212 * j) (107 + L) = -1 := by unfold vw; rw [if_neg (by omega), ahi j _ hj (by omega) (by omega), if_pos rfl]
      have w0 := hv 0 (by decide) (by decide) (by decide) (by omega) (by omega)
      generalize hV : vw A (300 + 212 * j) = V at *
      generalize hW : vw (ldA A w k p) (300 + 212 * j) = W at *
      refine ⟨?_, hWD V W o1 v.1 w1 w107 hv, by rw [hv 81 (by decide) (by decide) (by decide) (by omega) (by omega)]; exact v.2.1, FW_h (fun i h1 h2 => (hv i (by omega) (by omega) (by omega) (by omega) (by omega)).symm) v.2.2⟩
      have er : (fun i => M1 (2 + 8) ((M1 2 10 + j) % 30 * 92 + i)) = (fun i => M (2 + 8) ((M 2 10 + j) % 30 * 92 + i)) := by
        rw [m2, mU_n (by decide), f1 (2 + 8) (by decide)]
      rw [er, f1 (2 + 1) (by decide)]
      generalize (fun i => M (2 + 8) ((M 2 10 + j) % 30 * 92 + i)) = r at u ⊢
      obtain ⟨u1, u2, u3, u4, u5, u6⟩ := u
      refine ⟨fun b hb => ?_, fun l hl => ?_, by rw [hv 80 (by decide) (by decide) (by decide) (by omega) (by omega)]; exact u3, by rw [hv 81 (by decide) (by decide) (by decide) (by omega) (by omega)]; exact u4, by rw [hv 82 (by decide) (by decide) (by decide) (by omega) (by omega)]; exact u5, RF_h v.2.2.1 (fun _ _ _ => rfl) (fun i h1 h2 => (hv i (by omega) (by omega) (by omega) (by omega) (by omega)).symm) u6⟩
      · rw [w0, hv (83 + b) (by omega) (by omega) (by omega) (by omega) (by omega), hv (89 + b) (by omega) (by omega) (by omega) (by omega) (by omega), hv (95 + b) (by omega) (by omega) (by omega) (by omega) (by omega), hv (101 + b) (by omega) (by omega) (by omega) (by omega) (by omega)]
        exact u1 b hb
      · have t := u2 l hl
        rw [o1] at t
        rw [w1, hv (119 + l) (by omega) (by omega) (by omega) (by omega) (by omega)]
        by_cases e : l = L
        · subst e
          rw [w107]
          exact ⟨fun _ => t.2.1 (Int.le_refl _), fun x => by omega, t.2.2⟩
        · rw [hv (107 + l) (by omega) (by omega) (by omega) (by omega) (by omega)]
          exact ⟨fun x => t.1 (by omega), fun x => t.2.1 (by omega), t.2.2⟩
    · unfold MI at q6 ⊢
      rw [m2, mU_n (by decide), mU_n (by decide), mU_n (by decide), mU_n (by decide), f1 (2 + 1) (by decide), f1 (2 + 9) (by decide), f1 (2 + 10) (by decide), f1 (2 + 11) (by decide), ax 0 (by decide) (by decide) (by omega) (by omega), ax 5 (by decide) (by decide) (by omega) (by omega), ax 6 (by decide) (by decide) (by omega) (by omega), ax 2 (by decide) (by decide) (by omega) (by omega), ax 3 (by decide) (by decide) (by omega) (by omega)]
      obtain ⟨z1, z2, z3, z4, z5, z6, z7⟩ := q6
      refine ⟨z1, z2, z3, z4, z5, fun j hj => ?_, fun j hj => ?_⟩
      · rw [ax (58 + 2 * j) (by omega) (by omega) (by omega) (by omega), ax (59 + 2 * j) (by omega) (by omega) (by omega) (by omega)]
        exact z6 j hj
      · rw [ax (70 + j) (by omega) (by omega) (by omega) (by omega)]
        exact z7 j hj
  · have c : ¬ ((1 ≤ w ∧ w ≤ 60) ∧ (0 ≤ k ∧ k ≤ 5) ∧ (0 ≤ p ∧ p ≤ 99) ∧ M 98 1 ≠ 12) := c0
    repeat' first | (simp (disch := first | decide | omega) only [b118, w118_0, w118_1, w118_2, w118_4, w118_7, w118_10, w118_11, w118_12, w118_13, w118_16, w118_19, w118_20, w118_21, w118_23, w118_26, w118_29, w118_30, w118_31, w118_32, w118_35, w118_38, w118_40, w118_43, w118_44, w118_45, w118_46, w118_49, w118_50, w118_51, w118_52, w118_55, tc1, tr1_0, tr1_1, tr1_2, tr1_3, tr1_4, tr1_5, tr1_6, tr1_7, tr1_8, tr1_9, tr1_10, tr1_11, tc2, tr2_2, tr2_3, tr2_4, tr2_5, tr2_6, tr2_7, tr2_8, tr2_9, tr2_12, tr2_13, tr2_15, ta3, tn3, ta4, tn4, ta5, tn5, ta6, tn6, ta7, tn7, ta8, tn8, ta9, tn9, ta10, tn10, ta11, tn11, ta12, tn12, ta13, tn13, xLoad_i, xLoad_l, xLoad_r, xInc_s, xBr_t, xBr_f, xNz_s, xGf_s, xPf_s, xPz_s, xLd_2, xLd_7, xLd_10, xLdb_3, xLdb_5, xLdb_9, xLdl_4, xLdr_6, xSt_2, xStl_4, xStb_3, xStb_5, xLen_s, xLen_10, xCpy_s, xIv_s, xMx_s, mCont_s, mCont_n, w32_s, w64_s, upC_e, upC_n, upC_u, upC_c, mEn_c, mEn_n, mcw_i, mcw_l, mcw_r, mcat_n, mcat_i, mcat_l, mcat_r, xlong_i, xlong_l, xlong_r, xlong_n, s1_at, s2_at, ↓reduceIte, reduceCtorEq, and_self, true_and, and_true, false_and, and_false, Bool.false_eq_true, ne_eq, not_true_eq_false, not_false_eq_true, or_true, true_or, or_false, false_or, or_self, Int.tmod_eq_emod_of_nonneg, Int.tdiv_eq_ediv_of_nonneg, Classical.not_not, xSw, rOK, b2i_ok, b2i_0, b2i_1, Nat.reduceAdd, Nat.reduceSub, Nat.reduceMul, Nat.reduceEqDiff, Nat.reduceLeDiff, Nat.reduceLT, Int.reduceAdd, Int.reduceSub, Int.reduceMul, Int.reduceNeg, Int.reduceEq, Int.reduceNe, Int.reduceLT, Int.reduceLE, Int.reduceToNat, Int.reduceTDiv, Int.reduceTMod, b2i_em, c_outside, e1]) | refine xBr_in (fun _ => ?_) (fun _ => ?_) | refine xBr_i (fun _ => ?_) (fun _ => ?_)
    all_goals first | exact hK _ _ (fun K2 hK2 => r_load b1 b4 (fun c2 => absurd c2 c0) (fun _ => hK2 _ _ hJ)) | (exfalso; omega)
