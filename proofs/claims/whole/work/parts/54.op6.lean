/-! a bridge is told -/
def brA (A : Int → Int) (z n : Int) : Int → Int := mU (fun i => if (300 ≤ i ∧ i < 300 + 212 * A 4) ∧ (i - 300) % 212 = 3 + A 0 then z else mU (mU A (10 + A 0) n) (83 + A 0) z i) 0 (A 0 + 1)
theorem r_bridge {d : Nat} {M : mM} {K : mQ} {z n : Int} (hB : 0 ≤ M 98 0 ∧ M 98 0 ≤ 6) (h4 : 0 ≤ M 98 4 ∧ M 98 4 ≤ 30) (hy : (1 ≤ z ∧ z ≤ 60) ∧ (1 ≤ n ∧ n ≤ 9) ∧ M 98 0 ≠ 6 → K (some (vi (M 98 0))) (upC M 98 (brA (M 98) z n))) (hn : ¬ ((1 ≤ z ∧ z ≤ 60) ∧ (1 ≤ n ∧ n ≤ 9) ∧ M 98 0 ≠ 6) → K (some (vi (-1))) M) : mCall (d + 2) 167 [vr 97, vi z, vi n] M K := by
  by_cases c : (1 ≤ z ∧ z ≤ 60) ∧ (1 ≤ n ∧ n ≤ 9) ∧ M 98 0 ≠ 6
  · have hy2 := hy c
    simp (disch := first | decide | omega) only [b167, w167_0, w167_1, w167_4, w167_5, w167_6, w167_7, w167_8, w167_9, w167_11, w167_14, w167_17, w167_18, w167_19, w167_21, w167_24, w167_27, w167_28, w167_30, w167_33, w167_34, w167_35, w167_36, w167_39, w167_41, w167_42, w167_43, w167_44, w167_45, w167_46, w167_49, w167_51, w167_52, w167_53, w167_54, w167_55, w167_56, w167_60, w167_61, w167_64, w167_65, w167_66, w167_69, w167_70, w167_73, w167_76, w167_79, w167_81, w167_82, w167_83, w167_85, w167_86, w167_88, w167_89, w167_90, w167_91, w167_92, w167_93, w167_96, w167_99, w167_100, w167_103, w167_104, w167_105, w167_106, w167_107, w167_108, w167_109, w167_110, tc97, tr97_0, tr97_1, tr97_2, tr97_6, tr97_7, tr97_8, tr97_9, tr97_10, tr97_11, tr97_12, tr97_22, tr97_23, tr97_25, tr97_26, tr97_30, tr97_31, tr97_32, tr97_33, tr97_35, tr97_36, tr97_37, tr97_38, tr97_40, tr97_41, tr97_42, tr97_43, tr97_44, tr97_45, tr97_46, tr97_47, tr97_48, tr97_49, tr97_50, tr97_51, tr97_52, tr97_53, tr97_54, tr97_55, tr97_56, tr97_57, tr97_58, tr97_59, tr97_60, tr97_61, ta98, tn98, ta99, tn99, ta100, tn100, ta101, tn101, ta102, tn102, ta103, tn103, ta104, tn104, ta105, tn105, ta106, tn106, ta107, tn107, ta108, tn108, ta109, tn109, ta110, tn110, ta111, tn111, ta112, tn112, ta113, tn113, ta114, tn114, ta115, tn115, ta116, tn116, ta117, tn117, ta118, tn118, ta119, tn119, ta120, tn120, ta121, tn121, ta122, tn122, ta123, tn123, ta124, tn124, ta125, tn125, ta126, tn126, ta127, tn127, ta128, tn128, ta129, tn129, ta130, tn130, ta131, tn131, ta132, tn132, ta133, tn133, ta134, tn134, ta135, tn135, ta136, tn136, ta137, tn137, ta138, tn138, ta139, tn139, ta140, tn140, ta141, tn141, xLoad_i, xLoad_l, xLoad_r, xInc_s, xBr_t, xBr_f, xNz_s, xGf_s, xPf_s, xPz_s, xLd_2, xLd_7, xLd_10, xLdb_3, xLdb_5, xLdb_9, xLdl_4, xLdr_6, xSt_2, xStl_4, xStb_3, xStb_5, xLen_s, xLen_10, xCpy_s, xIv_s, xMx_s, mCont_s, mCont_n, w32_s, w64_s, upC_e, upC_n, upC_u, upC_c, mEn_c, mEn_n, mcw_i, mcw_l, mcw_r, mcat_n, mcat_i, mcat_l, mcat_r, xlong_i, xlong_l, xlong_r, xlong_n, s1_at, s2_at, ↓reduceIte, reduceCtorEq, and_self, true_and, and_true, false_and, and_false, Bool.false_eq_true, ne_eq, not_true_eq_false, not_false_eq_true, or_true, true_or, or_false, false_or, or_self, Int.tmod_eq_emod_of_nonneg, Int.tdiv_eq_ediv_of_nonneg, Classical.not_not, xSw, rOK, b2i_ok, b2i_0, b2i_1, Nat.reduceAdd, Nat.reduceSub, Nat.reduceMul, Nat.reduceEqDiff, Nat.reduceLeDiff, Nat.reduceLT, Int.reduceAdd, Int.reduceSub, Int.reduceMul, Int.reduceNeg, Int.reduceEq, Int.reduceNe, Int.reduceLT, Int.reduceLE, Int.reduceToNat, Int.reduceTDiv, Int.reduceTMod, b2i_em, r_in, b2i_t]
    refine loopL (P := fun k lv M' => M' = upC M 98 (fun i => if (300 ≤ i ∧ i < 300 + 212 * (k : Nat)) ∧ (i - 300) % 212 = 3 + M 98 0 then z else mU (mU (M 98) (10 + M 98 0) n) (83 + M 98 0) z i) ∧ lv 0 = some (vr 97) ∧ lv 1 = some (vi z) ∧ lv 2 = some (vi n) ∧ lv 3 = some (vi (M 98 0)) ∧ lv 4 = some (vi (k : Nat))) (G := fun lv M' => rn (d + 1) 167 K 58 lv [] M') (M 98 4).toNat 0 (Nat.zero_le _) _ _ ⟨?_, ?_, ?_, ?_, ?_, ?_⟩ (fun k hk ih lv M' h => ?_) (fun lv M' h => ?_)
    any_goals (simp [s1_at, s2_at, mEn_c, mcw_r, mcw_i, mcw_l, xlong_i, xlong_r, xlong_l, xlong_n]; done)
    · refine congrArg (upC M 98) ?_
      funext i
      rw [if_neg (by omega)]
    · obtain ⟨rfl, g0, g1, g2, g3, g4⟩ := h
      have e4 : (if (300 ≤ 4 ∧ 4 < 300 + 212 * (k : Int)) ∧ ((4 : Int) - 300) % 212 = 3 + M 98 0 then z else mU (mU (M 98) (10 + M 98 0) n) (83 + M 98 0) z 4) = M 98 4 := by rw [if_neg (by omega), mU_n (by omega), mU_n (by omega)]
      rw [w167_58]
      simp (disch := first | decide | omega) only [b167, w167_0, w167_1, w167_4, w167_5, w167_6, w167_7, w167_8, w167_9, w167_11, w167_14, w167_17, w167_18, w167_19, w167_21, w167_24, w167_27, w167_28, w167_30, w167_33, w167_34, w167_35, w167_36, w167_39, w167_41, w167_42, w167_43, w167_44, w167_45, w167_46, w167_49, w167_51, w167_52, w167_53, w167_54, w167_55, w167_56, w167_60, w167_61, w167_64, w167_65, w167_66, w167_69, w167_70, w167_73, w167_76, w167_79, w167_81, w167_82, w167_83, w167_85, w167_86, w167_88, w167_89, w167_90, w167_91, w167_92, w167_93, w167_96, w167_99, w167_100, w167_103, w167_104, w167_105, w167_106, w167_107, w167_108, w167_109, w167_110, tc97, tr97_0, tr97_1, tr97_2, tr97_6, tr97_7, tr97_8, tr97_9, tr97_10, tr97_11, tr97_12, tr97_22, tr97_23, tr97_25, tr97_26, tr97_30, tr97_31, tr97_32, tr97_33, tr97_35, tr97_36, tr97_37, tr97_38, tr97_40, tr97_41, tr97_42, tr97_43, tr97_44, tr97_45, tr97_46, tr97_47, tr97_48, tr97_49, tr97_50, tr97_51, tr97_52, tr97_53, tr97_54, tr97_55, tr97_56, tr97_57, tr97_58, tr97_59, tr97_60, tr97_61, ta98, tn98, ta99, tn99, ta100, tn100, ta101, tn101, ta102, tn102, ta103, tn103, ta104, tn104, ta105, tn105, ta106, tn106, ta107, tn107, ta108, tn108, ta109, tn109, ta110, tn110, ta111, tn111, ta112, tn112, ta113, tn113, ta114, tn114, ta115, tn115, ta116, tn116, ta117, tn117, ta118, tn118, ta119, tn119, ta120, tn120, ta121, tn121, ta122, tn122, ta123, tn123, ta124, tn124, ta125, tn125, ta126, tn126, ta127, tn127, ta128, tn128, ta129, tn129, ta130, tn130, ta131, tn131, ta132, tn132, ta133, tn133, ta134, tn134, ta135, tn135, ta136, tn136, ta137, tn137, ta138, tn138, ta139, tn139, ta140, tn140, ta141, tn141, xLoad_i, xLoad_l, xLoad_r, xInc_s, xBr_t, xBr_f, xNz_s, xGf_s, xPf_s, xPz_s, xLd_2, xLd_7, xLd_10, xLdb_3, xLdb_5, xLdb_9, xLdl_4, xLdr_6, xSt_2, xStl_4, xStb_3, xStb_5, xLen_s, xLen_10, xCpy_s, xIv_s, xMx_s, mCont_s, mCont_n, w32_s, w64_s, upC_e, upC_n, upC_u, upC_c, mEn_c, mEn_n, mcw_i, mcw_l, mcw_r, mcat_n, mcat_i, mcat_l, mcat_r, xlong_i, xlong_l, xlong_r, xlong_n, s1_at, s2_at, ↓reduceIte, reduceCtorEq, and_self, true_and, and_true, false_and, and_false, Bool.false_eq_true, ne_eq, not_true_eq_false, not_false_eq_true, or_true, true_or, or_false, false_or, or_self, Int.tmod_eq_emod_of_nonneg, Int.tdiv_eq_ediv_of_nonneg, Classical.not_not, xSw, rOK, b2i_ok, b2i_0, b2i_1, Nat.reduceAdd, Nat.reduceSub, Nat.reduceMul, Nat.reduceEqDiff, Nat.reduceLeDiff, Nat.reduceLT, Int.reduceAdd, Int.reduceSub, Int.reduceMul, Int.reduceNeg, Int.reduceEq, Int.reduceNe, Int.reduceLT, Int.reduceLE, Int.reduceToNat, Int.reduceTDiv, Int.reduceTMod, b2i_em, g0, g1, g2, g3, g4, e4]
      refine ih _ _ ⟨?_, ?_, ?_, ?_, ?_, ?_⟩
      any_goals (simp [s1_at, s2_at, mEn_c, mcw_r, mcw_i, mcw_l, xlong_i, xlong_r, xlong_l, xlong_n, g0, g1, g2, g3, g4]; done)
      refine congrArg (upC M 98) ?_
      funext i
      show (if i = _ then z else (if (300 ≤ i ∧ i < 300 + 212 * (k : Int)) ∧ (i - 300) % 212 = 3 + M 98 0 then z else _)) = _
      by_cases h1 : (300 ≤ i ∧ i < 300 + 212 * (k : Int)) ∧ (i - 300) % 212 = 3 + M 98 0
      · rw [if_pos h1, ite_self, if_pos (by omega)]
      · rw [if_neg h1]
        exact ite_c (fun w => by omega) (fun w => by omega) rfl rfl
    · obtain ⟨rfl, g0, g1, g2, g3, g4⟩ := h
      have e4 : (if (300 ≤ 4 ∧ 4 < 300 + 212 * ((M 98 4).toNat : Int)) ∧ ((4 : Int) - 300) % 212 = 3 + M 98 0 then z else mU (mU (M 98) (10 + M 98 0) n) (83 + M 98 0) z 4) = M 98 4 := by rw [if_neg (by omega), mU_n (by omega), mU_n (by omega)]
      have e0 : (if (300 ≤ 0 ∧ 0 < 300 + 212 * ((M 98 4).toNat : Int)) ∧ ((0 : Int) - 300) % 212 = 3 + M 98 0 then z else mU (mU (M 98) (10 + M 98 0) n) (83 + M 98 0) z 0) = M 98 0 := by rw [if_neg (by omega), mU_n (by omega), mU_n (by omega)]
      rw [w167_58]
      simp (disch := first | decide | omega) only [b167, w167_0, w167_1, w167_4, w167_5, w167_6, w167_7, w167_8, w167_9, w167_11, w167_14, w167_17, w167_18, w167_19, w167_21, w167_24, w167_27, w167_28, w167_30, w167_33, w167_34, w167_35, w167_36, w167_39, w167_41, w167_42, w167_43, w167_44, w167_45, w167_46, w167_49, w167_51, w167_52, w167_53, w167_54, w167_55, w167_56, w167_60, w167_61, w167_64, w167_65, w167_66, w167_69, w167_70, w167_73, w167_76, w167_79, w167_81, w167_82, w167_83, w167_85, w167_86, w167_88, w167_89, w167_90, w167_91, w167_92, w167_93, w167_96, w167_99, w167_100, w167_103, w167_104, w167_105, w167_106, w167_107, w167_108, w167_109, w167_110, tc97, tr97_0, tr97_1, tr97_2, tr97_6, tr97_7, tr97_8, tr97_9, tr97_10, tr97_11, tr97_12, tr97_22, tr97_23, tr97_25, tr97_26, tr97_30, tr97_31, tr97_32, tr97_33, tr97_35, tr97_36, tr97_37, tr97_38, tr97_40, tr97_41, tr97_42, tr97_43, tr97_44, tr97_45, tr97_46, tr97_47, tr97_48, tr97_49, tr97_50, tr97_51, tr97_52, tr97_53, tr97_54, tr97_55, tr97_56, tr97_57, tr97_58, tr97_59, tr97_60, tr97_61, ta98, tn98, ta99, tn99, ta100, tn100, ta101, tn101, ta102, tn102, ta103, tn103, ta104, tn104, ta105, tn105, ta106, tn106, ta107, tn107, ta108, tn108, ta109, tn109, ta110, tn110, ta111, tn111, ta112, tn112, ta113, tn113, ta114, tn114, ta115, tn115, ta116, tn116, ta117, tn117, ta118, tn118, ta119, tn119, ta120, tn120, ta121, tn121, ta122, tn122, ta123, tn123, ta124, tn124, ta125, tn125, ta126, tn126, ta127, tn127, ta128, tn128, ta129, tn129, ta130, tn130, ta131, tn131, ta132, tn132, ta133, tn133, ta134, tn134, ta135, tn135, ta136, tn136, ta137, tn137, ta138, tn138, ta139, tn139, ta140, tn140, ta141, tn141, xLoad_i, xLoad_l, xLoad_r, xInc_s, xBr_t, xBr_f, xNz_s, xGf_s, xPf_s, xPz_s, xLd_2, xLd_7, xLd_10, xLdb_3, xLdb_5, xLdb_9, xLdl_4, xLdr_6, xSt_2, xStl_4, xStb_3, xStb_5, xLen_s, xLen_10, xCpy_s, xIv_s, xMx_s, mCont_s, mCont_n, w32_s, w64_s, upC_e, upC_n, upC_u, upC_c, mEn_c, mEn_n, mcw_i, mcw_l, mcw_r, mcat_n, mcat_i, mcat_l, mcat_r, xlong_i, xlong_l, xlong_r, xlong_n, s1_at, s2_at, ↓reduceIte, reduceCtorEq, and_self, true_and, and_true, false_and, and_false, Bool.false_eq_true, ne_eq, not_true_eq_false, not_false_eq_true, or_true, true_or, or_false, false_or, or_self, Int.tmod_eq_emod_of_nonneg, Int.tdiv_eq_ediv_of_nonneg, Classical.not_not, xSw, rOK, b2i_ok, b2i_0, b2i_1, Nat.reduceAdd, Nat.reduceSub, Nat.reduceMul, Nat.reduceEqDiff, Nat.reduceLeDiff, Nat.reduceLT, Int.reduceAdd, Int.reduceSub, Int.reduceMul, Int.reduceNeg, Int.reduceEq, Int.reduceNe, Int.reduceLT, Int.reduceLE, Int.reduceToNat, Int.reduceTDiv, Int.reduceTMod, b2i_em, g0, g1, g2, g3, g4, e4, e0]
      unfold brA at hy2
      have e00 : mU (mU (M 98) (10 + M 98 0) n) (83 + M 98 0) z 0 = M 98 0 := by rw [mU_n (by omega), mU_n (by omega)]
      rw [show ((M 98 4).toNat : Int) = M 98 4 by omega, e00]
      exact hy2
  · have hn2 := hn c
    repeat' first | (simp (disch := first | decide | omega) only [b167, w167_0, w167_1, w167_4, w167_5, w167_6, w167_7, w167_8, w167_9, w167_11, w167_14, w167_17, w167_18, w167_19, w167_21, w167_24, w167_27, w167_28, w167_30, w167_33, w167_34, w167_35, w167_36, w167_39, w167_41, w167_42, w167_43, w167_44, w167_45, w167_46, w167_49, w167_51, w167_52, w167_53, w167_54, w167_55, w167_56, w167_60, w167_61, w167_64, w167_65, w167_66, w167_69, w167_70, w167_73, w167_76, w167_79, w167_81, w167_82, w167_83, w167_85, w167_86, w167_88, w167_89, w167_90, w167_91, w167_92, w167_93, w167_96, w167_99, w167_100, w167_103, w167_104, w167_105, w167_106, w167_107, w167_108, w167_109, w167_110, tc97, tr97_0, tr97_1, tr97_2, tr97_6, tr97_7, tr97_8, tr97_9, tr97_10, tr97_11, tr97_12, tr97_22, tr97_23, tr97_25, tr97_26, tr97_30, tr97_31, tr97_32, tr97_33, tr97_35, tr97_36, tr97_37, tr97_38, tr97_40, tr97_41, tr97_42, tr97_43, tr97_44, tr97_45, tr97_46, tr97_47, tr97_48, tr97_49, tr97_50, tr97_51, tr97_52, tr97_53, tr97_54, tr97_55, tr97_56, tr97_57, tr97_58, tr97_59, tr97_60, tr97_61, ta98, tn98, ta99, tn99, ta100, tn100, ta101, tn101, ta102, tn102, ta103, tn103, ta104, tn104, ta105, tn105, ta106, tn106, ta107, tn107, ta108, tn108, ta109, tn109, ta110, tn110, ta111, tn111, ta112, tn112, ta113, tn113, ta114, tn114, ta115, tn115, ta116, tn116, ta117, tn117, ta118, tn118, ta119, tn119, ta120, tn120, ta121, tn121, ta122, tn122, ta123, tn123, ta124, tn124, ta125, tn125, ta126, tn126, ta127, tn127, ta128, tn128, ta129, tn129, ta130, tn130, ta131, tn131, ta132, tn132, ta133, tn133, ta134, tn134, ta135, tn135, ta136, tn136, ta137, tn137, ta138, tn138, ta139, tn139, ta140, tn140, ta141, tn141, xLoad_i, xLoad_l, xLoad_r, xInc_s, xBr_t, xBr_f, xNz_s, xGf_s, xPf_s, xPz_s, xLd_2, xLd_7, xLd_10, xLdb_3, xLdb_5, xLdb_9, xLdl_4, xLdr_6, xSt_2, xStl_4, xStb_3, xStb_5, xLen_s, xLen_10, xCpy_s, xIv_s, xMx_s, mCont_s, mCont_n, w32_s, w64_s, upC_e, upC_n, upC_u, upC_c, mEn_c, mEn_n, mcw_i, mcw_l, mcw_r, mcat_n, mcat_i, mcat_l, mcat_r, xlong_i, xlong_l, xlong_r, xlong_n, s1_at, s2_at, ↓reduceIte, reduceCtorEq, and_self, true_and, and_true, false_and, and_false, Bool.false_eq_true, ne_eq, not_true_eq_false, not_false_eq_true, or_true, true_or, or_false, false_or, or_self, Int.tmod_eq_emod_of_nonneg, Int.tdiv_eq_ediv_of_nonneg, Classical.not_not, xSw, rOK, b2i_ok, b2i_0, b2i_1, Nat.reduceAdd, Nat.reduceSub, Nat.reduceMul, Nat.reduceEqDiff, Nat.reduceLeDiff, Nat.reduceLT, Int.reduceAdd, Int.reduceSub, Int.reduceMul, Int.reduceNeg, Int.reduceEq, Int.reduceNe, Int.reduceLT, Int.reduceLE, Int.reduceToNat, Int.reduceTDiv, Int.reduceTMod, b2i_em, r_in]) | refine xBr_in (fun _ => ?_) (fun _ => ?_) | refine xBr_i (fun _ => ?_) (fun _ => ?_)
    all_goals first | exact hn2 | (exfalso; omega)
theorem op_bridge {z n : Int} : OPJ 117 167 [vi z, vi n] := by
  intro S d M lw h K hK
  have hJ := h
  obtain ⟨k1, k2, k3, k4, k5, k6, k7⟩ := h
  obtain ⟨b0, b1, b4, hws, hwd, hfw, h81⟩ := J_b hJ
  have e0 : M 2 0 = M 98 0 := k1.1.1
  by_cases c : (1 ≤ z ∧ z ≤ 60) ∧ (1 ≤ n ∧ n ≤ 9) ∧ M 98 0 ≠ 6
  · simp (disch := first | decide | omega) only [b117, w117_0, w117_1, w117_2, w117_4, w117_7, w117_10, w117_11, w117_12, w117_14, w117_17, w117_20, w117_21, w117_24, w117_27, w117_29, w117_32, w117_33, w117_34, w117_35, w117_38, w117_39, w117_40, w117_43, tc1, tr1_0, tr1_1, tr1_2, tr1_3, tr1_4, tr1_5, tr1_6, tr1_7, tr1_8, tr1_9, tr1_10, tr1_11, tc2, tr2_2, tr2_3, tr2_4, tr2_5, tr2_6, tr2_7, tr2_8, tr2_9, tr2_12, tr2_13, tr2_15, ta3, tn3, ta4, tn4, ta5, tn5, ta6, tn6, ta7, tn7, ta8, tn8, ta9, tn9, ta10, tn10, ta11, tn11, ta12, tn12, ta13, tn13, xLoad_i, xLoad_l, xLoad_r, xInc_s, xBr_t, xBr_f, xNz_s, xGf_s, xPf_s, xPz_s, xLd_2, xLd_7, xLd_10, xLdb_3, xLdb_5, xLdb_9, xLdl_4, xLdr_6, xSt_2, xStl_4, xStb_3, xStb_5, xLen_s, xLen_10, xCpy_s, xIv_s, xMx_s, mCont_s, mCont_n, w32_s, w64_s, upC_e, upC_n, upC_u, upC_c, mEn_c, mEn_n, mcw_i, mcw_l, mcw_r, mcat_n, mcat_i, mcat_l, mcat_r, xlong_i, xlong_l, xlong_r, xlong_n, s1_at, s2_at, ↓reduceIte, reduceCtorEq, and_self, true_and, and_true, false_and, and_false, Bool.false_eq_true, ne_eq, not_true_eq_false, not_false_eq_true, or_true, true_or, or_false, false_or, or_self, Int.tmod_eq_emod_of_nonneg, Int.tdiv_eq_ediv_of_nonneg, Classical.not_not, xSw, rOK, b2i_ok, b2i_0, b2i_1, Nat.reduceAdd, Nat.reduceSub, Nat.reduceMul, Nat.reduceEqDiff, Nat.reduceLeDiff, Nat.reduceLT, Int.reduceAdd, Int.reduceSub, Int.reduceMul, Int.reduceNeg, Int.reduceEq, Int.reduceNe, Int.reduceLT, Int.reduceLE, Int.reduceToNat, Int.reduceTDiv, Int.reduceTMod, b2i_em, c_outside, b2i_f, e0]
    rw [c_addBridge (by omega), e0]
    simp (disch := first | decide | omega) only [b117, w117_0, w117_1, w117_2, w117_4, w117_7, w117_10, w117_11, w117_12, w117_14, w117_17, w117_20, w117_21, w117_24, w117_27, w117_29, w117_32, w117_33, w117_34, w117_35, w117_38, w117_39, w117_40, w117_43, tc1, tr1_0, tr1_1, tr1_2, tr1_3, tr1_4, tr1_5, tr1_6, tr1_7, tr1_8, tr1_9, tr1_10, tr1_11, tc2, tr2_2, tr2_3, tr2_4, tr2_5, tr2_6, tr2_7, tr2_8, tr2_9, tr2_12, tr2_13, tr2_15, ta3, tn3, ta4, tn4, ta5, tn5, ta6, tn6, ta7, tn7, ta8, tn8, ta9, tn9, ta10, tn10, ta11, tn11, ta12, tn12, ta13, tn13, xLoad_i, xLoad_l, xLoad_r, xInc_s, xBr_t, xBr_f, xNz_s, xGf_s, xPf_s, xPz_s, xLd_2, xLd_7, xLd_10, xLdb_3, xLdb_5, xLdb_9, xLdl_4, xLdr_6, xSt_2, xStl_4, xStb_3, xStb_5, xLen_s, xLen_10, xCpy_s, xIv_s, xMx_s, mCont_s, mCont_n, w32_s, w64_s, upC_e, upC_n, upC_u, upC_c, mEn_c, mEn_n, mcw_i, mcw_l, mcw_r, mcat_n, mcat_i, mcat_l, mcat_r, xlong_i, xlong_l, xlong_r, xlong_n, s1_at, s2_at, ↓reduceIte, reduceCtorEq, and_self, true_and, and_true, false_and, and_false, Bool.false_eq_true, ne_eq, not_true_eq_false, not_false_eq_true, or_true, true_or, or_false, false_or, or_self, Int.tmod_eq_emod_of_nonneg, Int.tdiv_eq_ediv_of_nonneg, Classical.not_not, xSw, rOK, b2i_ok, b2i_0, b2i_1, Nat.reduceAdd, Nat.reduceSub, Nat.reduceMul, Nat.reduceEqDiff, Nat.reduceLeDiff, Nat.reduceLT, Int.reduceAdd, Int.reduceSub, Int.reduceMul, Int.reduceNeg, Int.reduceEq, Int.reduceNe, Int.reduceLT, Int.reduceLE, Int.reduceToNat, Int.reduceTDiv, Int.reduceTMod, b2i_em]
    refine hK _ _ (fun K2 hK2 => r_bridge (by simp (disch := first | decide | omega) only [upC_e, upC_n, mU_e, mU_n]; exact b0) (by simp (disch := first | decide | omega) only [upC_e, upC_n, mU_e, mU_n]; exact b4) (fun _ => ?_) (fun c2 => absurd c (by revert c2; simp (disch := first | decide | omega) only [upC_e, upC_n, mU_e, mU_n]; exact fun q => q)))
    obtain ⟨B, hB⟩ := Int.eq_ofNat_of_zero_le b0.1
    have hB6 : B < 6 := by omega
    generalize hM1 : upC (upC (upC (upC M 2 (mU (M 2) 0 (M 98 0 + 1))) 3 (mU (M 3) (M 98 0) z)) 4 (mU (M 4) (M 98 0) n)) 9 (mU (M 9) (M 98 0) z) = M1
    have m98 : M1 98 = M 98 := by rw [← hM1]; simp (disch := first | decide | omega) only [upC_e, upC_n, mU_e, mU_n]
    have f1 : fr [2, 3, 4, 9] M M1 := by rw [← hM1]; (repeat (first | exact fr_refl | assumption | refine fr_up (by decide) ?_))
    have m2 : M1 2 = mU (M 2) 0 (B + 1) := by rw [← hM1, hB]; simp (disch := first | decide | omega) only [upC_e, upC_n, mU_e, mU_n]
    have m3 : M1 3 = mU (M 3) B z := by rw [← hM1, hB]; simp (disch := first | decide | omega) only [upC_e, upC_n, mU_e, mU_n]
    have m4 : M1 4 = mU (M 4) B n := by rw [← hM1, hB]; simp (disch := first | decide | omega) only [upC_e, upC_n, mU_e, mU_n]
    have m9 : M1 9 = mU (M 9) B z := by rw [← hM1, hB]; simp (disch := first | decide | omega) only [upC_e, upC_n, mU_e, mU_n]
    rw [m98]
    generalize hA : M 98 = A at *
    have a0 : brA A z n 0 = B + 1 := by unfold brA; rw [mU_e, hB]
    have alo : ∀ i : Int, i < 300 → i ≠ 0 → brA A z n i = mU (mU A (10 + B) n) (83 + B) z i := by
      intro i hi h0
      unfold brA
      rw [mU_n h0, hB]
      exact if_neg (by omega)
    have aeq : ∀ i : Int, i < 300 → i ≠ 0 → i ≠ 10 + B → i ≠ 83 + B → brA A z n i = A i := by
      intro i hi h0 h1 h2
      rw [alo i hi h0, mU_n h2, mU_n h1]
    have ahi : ∀ (k : Nat) (i : Int), (k : Int) < A 4 → 80 ≤ i → i < 292 → brA A z n (300 + 212 * k + (i - 80)) = if i = 83 + B then z else A (300 + 212 * k + (i - 80)) := by
      intro k i hk h1 h2
      unfold brA
      rw [mU_n (by omega), hB]
      show (if _ then _ else _) = _
      rw [mU_n (by omega), mU_n (by omega)]
      exact ite_c (fun w => by omega) (fun w => by omega) rfl rfl
    have hvw : ∀ (k : Nat), (k : Int) < A 4 → ∀ i : Int, 0 ≤ i → i < 292 → i ≠ 0 → i ≠ 10 + B → i ≠ 83 + B → vw (brA A z n) (300 + 212 * k) i = vw A (300 + 212 * k) i := by
      intro k hk i h0 h1 h2 h3 h4
      unfold vw
      by_cases g : i < 80
      · rw [if_pos g, if_pos g, aeq i (by omega) h2 h3 h4]
      · rw [if_neg g, if_neg g, ahi k i hk (by omega) h1, if_neg h4]
    have hWD : ∀ V W : Int → Int, V 0 = B → V 1 = A 1 → WD V → W 0 = B + 1 → W (83 + B) = z → W (10 + B) = n → (∀ i : Int, 0 ≤ i → i < 292 → i ≠ 0 → i ≠ 10 + B → i ≠ 83 + B → W i = V i) → WD W := by
      intro V W v0 v1 hV w0 w83 w10 hW
      obtain ⟨p1, p2, p3, p4, p5⟩ := hV
      have w1 : W 1 = V 1 := hW 1 (by decide) (by decide) (by decide) (by omega) (by omega)
      unfold WD
      rw [hW 80 (by decide) (by decide) (by decide) (by omega) (by omega), hW 81 (by decide) (by decide) (by decide) (by omega) (by omega), hW 82 (by decide) (by decide) (by decide) (by omega) (by omega), w0, w1]
      refine ⟨p1, p2, p3, fun b hb => ?_, fun l hl => ?_⟩
      · have q := p4 b hb
        rw [hW (89 + b) (by omega) (by omega) (by omega) (by omega) (by omega), hW (95 + b) (by omega) (by omega) (by omega) (by omega) (by omega), hW (101 + b) (by omega) (by omega) (by omega) (by omega) (by omega)]
        rw [v0] at q
        by_cases e : b = B
        · subst e
          rw [w83]
          have q2 := q.2.2.2.1 (Int.le_refl _)
          refine ⟨by omega, by omega, fun _ => by omega, fun w => by omega, q.2.2.2.2⟩
        · rw [hW (83 + b) (by omega) (by omega) (by omega) (by omega) (by omega)]
          exact ⟨q.1, q.2.1, fun w => q.2.2.1 (by omega), fun w => q.2.2.2.1 (by omega), q.2.2.2.2⟩
      · have q := p5 l hl
        rw [hW (107 + l) (by omega) (by omega) (by omega) (by omega) (by omega), hW (119 + l) (by omega) (by omega) (by omega) (by omega) (by omega)]
        rw [v0] at q
        refine ⟨q.1, q.2.1, fun x y w => ?_, q.2.2.2⟩
        have q2 := q.2.2.1 x y w
        rw [hW (10 + V (107 + l)) (by omega) (by omega) (by omega) (by omega) (by omega)]
        omega
    refine hK2 _ lw (J_step hJ (fr_mono f1 (by decide)) ?_ (by rw [f1 63 (by decide)]; exact k6) (fr_in (k := 98) (by decide)) (fun i _ => by rw [upC_n (by decide)]) (by rw [upC_e, hA, aeq 2 (by decide) (by decide) (by omega) (by omega)]))
    rw [upC_e]
    obtain ⟨q1, q2, q3, q4, q5, q6⟩ := k1
    refine ⟨?_, ⟨?_, ?_, ?_⟩, ?_, ⟨?_, ?_, ?_⟩, ?_, ?_⟩
    · refine ⟨by rw [m2, mU_e, a0], by rw [m2, mU_n (by decide), aeq 1 (by decide) (by decide) (by omega) (by omega)]; exact q1.2.1, fun b hb => ?_, fun l hl => ?_⟩
      · have q := q1.2.2.1 b hb
        rw [show 2 + 2 = 4 from rfl, m4, f1 (2 + 3) (by decide), aeq (16 + b) (by omega) (by omega) (by omega) (by omega)]
        refine ⟨?_, q.2⟩
        by_cases e : b = B
        · subst e
          rw [mU_e, alo _ (by omega) (by omega), mU_n (by omega), mU_e]
        · rw [mU_n (by omega), aeq (10 + b) (by omega) (by omega) (by omega) (by omega)]
          exact q.1
      · rw [f1 (2 + 4) (by decide), f1 (2 + 5) (by decide), f1 (2 + 6) (by decide), aeq (22 + 3 * l) (by omega) (by omega) (by omega) (by omega), aeq (23 + 3 * l) (by omega) (by omega) (by omega) (by omega), aeq (24 + 3 * l) (by omega) (by omega) (by omega) (by omega)]
        exact q1.2.2.2 l hl
    · have q := q2.1
      rw [show 2 + 7 = 9 from rfl, m9]
      unfold RD at q ⊢
      rw [aeq 1 (by decide) (by decide) (by omega) (by omega), aeq 80 (by decide) (by decide) (by omega) (by omega), aeq 82 (by decide) (by decide) (by omega) (by omega), mU_n (show (48 : Int) ≠ B by omega), mU_n (show (50 : Int) ≠ B by omega), mU_n (show (51 : Int) ≠ B by omega)]
      refine ⟨fun b hb => ?_, fun l hl => ?_, q.2.2⟩
      · have u := q.1 b hb
        rw [mU_n (show (6 : Int) + b ≠ B by omega), mU_n (show (12 : Int) + b ≠ B by omega), mU_n (show (18 : Int) + b ≠ B by omega), aeq (89 + b) (by omega) (by omega) (by omega) (by omega), aeq (95 + b) (by omega) (by omega) (by omega) (by omega), aeq (101 + b) (by omega) (by omega) (by omega) (by omega)]
        refine ⟨?_, u.2⟩
        by_cases e : b = B
        · subst e
          rw [mU_e, alo _ (by omega) (by omega), mU_e]
        · rw [mU_n (by omega), aeq (83 + b) (by omega) (by omega) (by omega) (by omega)]
          exact u.1
      · rw [mU_n (show (24 : Int) + l ≠ B by omega), mU_n (show (36 : Int) + l ≠ B by omega), aeq (107 + l) (by omega) (by omega) (by omega) (by omega), aeq (119 + l) (by omega) (by omega) (by omega) (by omega)]
        exact q.2.1 l hl
    · rw [show 2 + 7 = 9 from rfl, m9, mU_n (by omega), aeq 81 (by decide) (by decide) (by omega) (by omega)]
      exact q2.2.1
    · rw [show 2 + 7 = 9 from rfl, m9]
      exact RF_h q4.2.2.1 (fun i h1 h2 => by simp (disch := first | decide | omega) only [upC_e, upC_n, mU_e, mU_n]) (fun i h1 h2 => (aeq i (by omega) (by omega) (by omega) (by omega)).symm) q2.2.2
    · unfold WS at q3 ⊢
      rw [a0, aeq 1 (by decide) (by decide) (by omega) (by omega)]
      refine ⟨by omega, q3.2.1, fun b hb => ?_, fun l hl => ?_, fun p q hp hq => ?_⟩
      · have u := q3.2.2.1 b hb
        rw [aeq (16 + b) (by omega) (by omega) (by omega) (by omega)]
        by_cases e : b = B
        · subst e
          rw [alo _ (by omega) (by omega), mU_n (by omega), mU_e]
          exact ⟨by omega, by omega, fun _ => by omega, u.2.2.2⟩
        · rw [aeq (10 + b) (by omega) (by omega) (by omega) (by omega)]
          exact ⟨u.1, u.2.1, fun w => u.2.2.1 (by omega), u.2.2.2⟩
      · rw [aeq (22 + 3 * l) (by omega) (by omega) (by omega) (by omega), aeq (23 + 3 * l) (by omega) (by omega) (by omega) (by omega), aeq (24 + 3 * l) (by omega) (by omega) (by omega) (by omega)]
        exact q3.2.2.2.1 l hl
      · rw [aeq (16 + p) (by omega) (by omega) (by omega) (by omega), aeq (16 + q) (by omega) (by omega) (by omega) (by omega)]
        exact q3.2.2.2.2 p q hp hq
    · exact hWD A _ hB rfl hwd a0 (by rw [alo _ (by omega) (by omega), mU_e]) (by rw [alo _ (by omega) (by omega), mU_n (by omega), mU_e]) (fun i _ hi h2 h3 h4 => aeq i (by omega) h2 h3 h4)
    · rw [aeq 81 (by decide) (by decide) (by omega) (by omega)]; exact h81
    · exact FW_h (fun i h1 h2 => (aeq i (by omega) (by omega) (by omega) (by omega)).symm) hfw
    · refine ⟨by rw [m2, mU_n (by decide), aeq 4 (by decide) (by decide) (by omega) (by omega)]; exact q5.1, by rw [aeq 4 (by decide) (by decide) (by omega) (by omega)]; exact q5.2.1, by rw [m2, mU_n (by decide)]; exact q5.2.2.1, fun k hk => ?_⟩
      rw [aeq 4 (by decide) (by decide) (by omega) (by omega)] at hk
      obtain ⟨u, v⟩ := q5.2.2.2 k hk
      have hv := hvw k hk
      have w0 : vw (brA A z n) (300 + 212 * k) 0 = B + 1 := by unfold vw; rw [if_pos (by decide), a0]
      have o0 : vw A (300 + 212 * k) 0 = B := by unfold vw; rw [if_pos (by decide), hB]
      have w83 : vw (brA A z n) (300 + 212 * k) (83 + B) = z := by unfold vw; rw [if_neg (by omega), ahi k _ hk (by omega) (by omega), if_pos rfl]
      have w10 : vw (brA A z n) (300 + 212 * k) (10 + B) = n := by unfold vw; rw [if_pos (by omega), alo _ (by omega) (by omega), mU_n (by omega), mU_e]
      have w1 := hv 1 (by decide) (by decide) (by decide) (by omega) (by omega)
      have o1 : vw A (300 + 212 * k) 1 = A 1 := by unfold vw; rw [if_pos (by decide)]
      generalize hV : vw A (300 + 212 * k) = V at *
      generalize hW : vw (brA A z n) (300 + 212 * k) = W at *
      refine ⟨?_, hWD V W o0 o1 v.1 w0 w83 w10 hv, by rw [hv 81 (by decide) (by decide) (by decide) (by omega) (by omega)]; exact v.2.1, FW_h (fun i h1 h2 => (hv i (by omega) (by omega) (by omega) (by omega) (by omega)).symm) v.2.2⟩
      have er : (fun i => M1 (2 + 8) ((M1 2 10 + k) % 30 * 92 + i)) = (fun i => M (2 + 8) ((M 2 10 + k) % 30 * 92 + i)) := by
        rw [m2, mU_n (by decide), f1 (2 + 8) (by decide)]
      rw [er, show 2 + 1 = 3 from rfl, m3]
      generalize (fun i => M (2 + 8) ((M 2 10 + k) % 30 * 92 + i)) = r at u ⊢
      obtain ⟨u1, u2, u3, u4, u5, u6⟩ := u
      refine ⟨fun b hb => ?_, fun l hl => ?_, by rw [hv 80 (by decide) (by decide) (by decide) (by omega) (by omega)]; exact u3, by rw [hv 81 (by decide) (by decide) (by decide) (by omega) (by omega)]; exact u4, by rw [hv 82 (by decide) (by decide) (by decide) (by omega) (by omega)]; exact u5, RF_h v.2.2.1 (fun _ _ _ => rfl) (fun i h1 h2 => (hv i (by omega) (by omega) (by omega) (by omega) (by omega)).symm) u6⟩
      · have t := u1 b hb
        rw [o0] at t
        rw [w0, hv (89 + b) (by omega) (by omega) (by omega) (by omega) (by omega), hv (95 + b) (by omega) (by omega) (by omega) (by omega) (by omega), hv (101 + b) (by omega) (by omega) (by omega) (by omega) (by omega)]
        refine ⟨fun c1 => ?_, fun c1 => t.2.1 (by omega), t.2.2⟩
        by_cases e : b = B
        · subst e
          rw [if_pos (t.2.1 (Int.le_refl _)), mU_e, w83]
        · rw [hv (83 + b) (by omega) (by omega) (by omega) (by omega) (by omega), mU_n (by omega)]
          exact t.1 (by omega)
      · rw [w1, hv (107 + l) (by omega) (by omega) (by omega) (by omega) (by omega), hv (119 + l) (by omega) (by omega) (by omega) (by omega) (by omega)]
        exact u2 l hl
    · unfold MI at q6 ⊢
      rw [m2, mU_n (by decide), mU_n (by decide), mU_n (by decide), mU_n (by decide), show 2 + 1 = 3 from rfl, m3, f1 (2 + 9) (by decide), f1 (2 + 10) (by decide), f1 (2 + 11) (by decide), a0, aeq 5 (by decide) (by decide) (by omega) (by omega), aeq 6 (by decide) (by decide) (by omega) (by omega), aeq 2 (by decide) (by decide) (by omega) (by omega), aeq 3 (by decide) (by decide) (by omega) (by omega)]
      obtain ⟨z1, z2, z3, z4, z5, z6, z7⟩ := q6
      refine ⟨fun b hb c1 => ?_, z2, z3, z4, z5, fun k hk => ?_, fun k hk => ?_⟩
      · by_cases e : b = B
        · subst e
          rw [mU_e]
          exact c.1
        · rw [mU_n (by omega)]
          exact z1 b hb (by omega)
      · have t := z6 k hk
        rw [aeq (58 + 2 * k) (by omega) (by omega) (by omega) (by omega), aeq (59 + 2 * k) (by omega) (by omega) (by omega) (by omega)]
        refine ⟨t.1, t.2.1, fun w => ?_⟩
        have t2 := t.2.2 w
        omega
      · rw [aeq (70 + k) (by omega) (by omega) (by omega) (by omega)]
        exact z7 k hk
  · repeat' first | (simp (disch := first | decide | omega) only [b117, w117_0, w117_1, w117_2, w117_4, w117_7, w117_10, w117_11, w117_12, w117_14, w117_17, w117_20, w117_21, w117_24, w117_27, w117_29, w117_32, w117_33, w117_34, w117_35, w117_38, w117_39, w117_40, w117_43, tc1, tr1_0, tr1_1, tr1_2, tr1_3, tr1_4, tr1_5, tr1_6, tr1_7, tr1_8, tr1_9, tr1_10, tr1_11, tc2, tr2_2, tr2_3, tr2_4, tr2_5, tr2_6, tr2_7, tr2_8, tr2_9, tr2_12, tr2_13, tr2_15, ta3, tn3, ta4, tn4, ta5, tn5, ta6, tn6, ta7, tn7, ta8, tn8, ta9, tn9, ta10, tn10, ta11, tn11, ta12, tn12, ta13, tn13, xLoad_i, xLoad_l, xLoad_r, xInc_s, xBr_t, xBr_f, xNz_s, xGf_s, xPf_s, xPz_s, xLd_2, xLd_7, xLd_10, xLdb_3, xLdb_5, xLdb_9, xLdl_4, xLdr_6, xSt_2, xStl_4, xStb_3, xStb_5, xLen_s, xLen_10, xCpy_s, xIv_s, xMx_s, mCont_s, mCont_n, w32_s, w64_s, upC_e, upC_n, upC_u, upC_c, mEn_c, mEn_n, mcw_i, mcw_l, mcw_r, mcat_n, mcat_i, mcat_l, mcat_r, xlong_i, xlong_l, xlong_r, xlong_n, s1_at, s2_at, ↓reduceIte, reduceCtorEq, and_self, true_and, and_true, false_and, and_false, Bool.false_eq_true, ne_eq, not_true_eq_false, not_false_eq_true, or_true, true_or, or_false, false_or, or_self, Int.tmod_eq_emod_of_nonneg, Int.tdiv_eq_ediv_of_nonneg, Classical.not_not, xSw, rOK, b2i_ok, b2i_0, b2i_1, Nat.reduceAdd, Nat.reduceSub, Nat.reduceMul, Nat.reduceEqDiff, Nat.reduceLeDiff, Nat.reduceLT, Int.reduceAdd, Int.reduceSub, Int.reduceMul, Int.reduceNeg, Int.reduceEq, Int.reduceNe, Int.reduceLT, Int.reduceLE, Int.reduceToNat, Int.reduceTDiv, Int.reduceTMod, b2i_em, c_outside, e0]) | refine xBr_in (fun _ => ?_) (fun _ => ?_) | refine xBr_i (fun _ => ?_) (fun _ => ?_)
    all_goals first | exact hK _ _ (fun K2 hK2 => r_bridge b0 b4 (fun c2 => absurd c2 c) (fun _ => hK2 _ _ hJ)) | (exfalso; omega)
