theorem cn_n {G : Nat → Int} : ∀ n, cn G n ≤ n
  | 0 => Nat.le_refl _
  | n + 1 => by
    have := cn_n (G := G) n
    unfold cn
    split <;> omega
set_option maxHeartbeats 4000000 in
theorem a_passHour {d : Nat} {M : mM} {K : mQ} {A : Int → Int} {ru : RU} (h : CX M A ru) (ha : M 63 2 = 0) (hh : A 81 ≤ 1999) (hK : ∀ M', fr SP M M' → CX M' (hA ru A) ru → (RF (M 9) A → 0 ≤ A 131 ∧ A 131 ≤ 40 → RF (M' 9) (hA ru A)) → K (some (vi (hfell ru A))) M') : mCall (d + 7) 22 [vr 63] M K := by
  have s0 := h.1.1
  have s1 := h.1.2.1
  have hw := h.2.2.2.1
  have hd := h.2.2.2.2.1
  have hw0 := hw.1
  have hw1 := hw.2.1
  have hhr : M 9 49 = A 81 := by have := h.2.2.1.1; omega
  simp (disch := first | decide | omega) only [b22, w22_0, w22_1, w22_4, w22_5, w22_8, w22_9, w22_10, w22_11, w22_12, w22_14, w22_15, w22_18, w22_21, w22_24, w22_25, w22_26, w22_29, w22_32, w22_35, w22_36, w22_39, w22_42, w22_44, w22_45, w22_46, w22_47, w22_48, w22_49, w22_50, w22_51, w22_52, w22_55, w22_58, w22_60, w22_61, w22_62, w22_63, w22_64, w22_65, w22_68, w22_71, w22_74, w22_75, w22_78, w22_79, w22_82, w22_85, w22_88, w22_91, w22_92, w22_95, w22_98, w22_99, w22_102, w22_105, w22_107, w22_108, w22_109, w22_110, w22_111, w22_112, w22_113, tc63, tr63_0, tr63_1, tr63_3, tr63_4, tr63_5, tr63_6, ta64, tn64, ta65, tn65, ta66, tn66, ta67, tn67, tc2, tr2_2, tr2_3, tr2_4, tr2_5, tr2_6, tr2_7, tr2_8, tr2_9, tr2_12, tr2_13, tr2_15, ta3, tn3, ta4, tn4, ta5, tn5, ta6, tn6, ta7, tn7, ta8, tn8, ta9, tn9, ta10, tn10, ta11, tn11, ta12, tn12, ta13, tn13, xLoad_i, xLoad_l, xLoad_r, xInc_s, xBr_t, xBr_f, xNz_s, xGf_s, xPf_s, xPz_s, xLd_2, xLd_7, xLd_10, xLdb_3, xLdb_5, xLdb_9, xLdl_4, xLdr_6, xSt_2, xStl_4, xStb_3, xStb_5, xLen_s, xLen_10, xCpy_s, xIv_s, xMx_s, mCont_s, mCont_n, w32_s, w64_s, upC_e, upC_n, upC_u, upC_c, mEn_c, mEn_n, mcw_i, mcw_l, mcw_r, mcat_n, mcat_i, mcat_l, mcat_r, xlong_i, xlong_l, xlong_r, xlong_n, s1_at, s2_at, ↓reduceIte, reduceCtorEq, and_self, true_and, and_true, false_and, and_false, Bool.false_eq_true, ne_eq, not_true_eq_false, not_false_eq_true, or_true, true_or, or_false, false_or, or_self, Int.tmod_eq_emod_of_nonneg, Int.tdiv_eq_ediv_of_nonneg, Classical.not_not, xSw, rOK, b2i_ok, b2i_0, b2i_1, Nat.reduceAdd, Nat.reduceSub, Nat.reduceMul, Nat.reduceEqDiff, Nat.reduceLeDiff, Nat.reduceLT, Int.reduceAdd, Int.reduceSub, Int.reduceMul, Int.reduceNeg, Int.reduceEq, Int.reduceNe, Int.reduceLT, Int.reduceLE, Int.reduceToNat, Int.reduceTDiv, Int.reduceTMod, b2i_em]
  refine a_hearAll h (fun M1 f1 h1 => ?_)
  simp (disch := first | decide | omega) only [b22, w22_0, w22_1, w22_4, w22_5, w22_8, w22_9, w22_10, w22_11, w22_12, w22_14, w22_15, w22_18, w22_21, w22_24, w22_25, w22_26, w22_29, w22_32, w22_35, w22_36, w22_39, w22_42, w22_44, w22_45, w22_46, w22_47, w22_48, w22_49, w22_50, w22_51, w22_52, w22_55, w22_58, w22_60, w22_61, w22_62, w22_63, w22_64, w22_65, w22_68, w22_71, w22_74, w22_75, w22_78, w22_79, w22_82, w22_85, w22_88, w22_91, w22_92, w22_95, w22_98, w22_99, w22_102, w22_105, w22_107, w22_108, w22_109, w22_110, w22_111, w22_112, w22_113, tc63, tr63_0, tr63_1, tr63_3, tr63_4, tr63_5, tr63_6, ta64, tn64, ta65, tn65, ta66, tn66, ta67, tn67, tc2, tr2_2, tr2_3, tr2_4, tr2_5, tr2_6, tr2_7, tr2_8, tr2_9, tr2_12, tr2_13, tr2_15, ta3, tn3, ta4, tn4, ta5, tn5, ta6, tn6, ta7, tn7, ta8, tn8, ta9, tn9, ta10, tn10, ta11, tn11, ta12, tn12, ta13, tn13, xLoad_i, xLoad_l, xLoad_r, xInc_s, xBr_t, xBr_f, xNz_s, xGf_s, xPf_s, xPz_s, xLd_2, xLd_7, xLd_10, xLdb_3, xLdb_5, xLdb_9, xLdl_4, xLdr_6, xSt_2, xStl_4, xStb_3, xStb_5, xLen_s, xLen_10, xCpy_s, xIv_s, xMx_s, mCont_s, mCont_n, w32_s, w64_s, upC_e, upC_n, upC_u, upC_c, mEn_c, mEn_n, mcw_i, mcw_l, mcw_r, mcat_n, mcat_i, mcat_l, mcat_r, xlong_i, xlong_l, xlong_r, xlong_n, s1_at, s2_at, ↓reduceIte, reduceCtorEq, and_self, true_and, and_true, false_and, and_false, Bool.false_eq_true, ne_eq, not_true_eq_false, not_false_eq_true, or_true, true_or, or_false, false_or, or_self, Int.tmod_eq_emod_of_nonneg, Int.tdiv_eq_ediv_of_nonneg, Classical.not_not, xSw, rOK, b2i_ok, b2i_0, b2i_1, Nat.reduceAdd, Nat.reduceSub, Nat.reduceMul, Nat.reduceEqDiff, Nat.reduceLeDiff, Nat.reduceLT, Int.reduceAdd, Int.reduceSub, Int.reduceMul, Int.reduceNeg, Int.reduceEq, Int.reduceNe, Int.reduceLT, Int.reduceLE, Int.reduceToNat, Int.reduceTDiv, Int.reduceTMod, b2i_em]
  refine a_falseBridges (nt := ntA ru A) (CX_fr h f1 (by decide)) (fun b hb => ⟨h1 b hb, ntA_R⟩) (fun M2 f2 => ?_)
  have f12 : fr SP M M2 := fr_tr f1 f2 (by decide) (by decide)
  have f12b : fr (64 :: 65 :: SC) M M2 := fr_tr f1 f2 (by decide) (by decide)
  simp (disch := first | decide | omega) only [b22, w22_0, w22_1, w22_4, w22_5, w22_8, w22_9, w22_10, w22_11, w22_12, w22_14, w22_15, w22_18, w22_21, w22_24, w22_25, w22_26, w22_29, w22_32, w22_35, w22_36, w22_39, w22_42, w22_44, w22_45, w22_46, w22_47, w22_48, w22_49, w22_50, w22_51, w22_52, w22_55, w22_58, w22_60, w22_61, w22_62, w22_63, w22_64, w22_65, w22_68, w22_71, w22_74, w22_75, w22_78, w22_79, w22_82, w22_85, w22_88, w22_91, w22_92, w22_95, w22_98, w22_99, w22_102, w22_105, w22_107, w22_108, w22_109, w22_110, w22_111, w22_112, w22_113, tc63, tr63_0, tr63_1, tr63_3, tr63_4, tr63_5, tr63_6, ta64, tn64, ta65, tn65, ta66, tn66, ta67, tn67, tc2, tr2_2, tr2_3, tr2_4, tr2_5, tr2_6, tr2_7, tr2_8, tr2_9, tr2_12, tr2_13, tr2_15, ta3, tn3, ta4, tn4, ta5, tn5, ta6, tn6, ta7, tn7, ta8, tn8, ta9, tn9, ta10, tn10, ta11, tn11, ta12, tn12, ta13, tn13, xLoad_i, xLoad_l, xLoad_r, xInc_s, xBr_t, xBr_f, xNz_s, xGf_s, xPf_s, xPz_s, xLd_2, xLd_7, xLd_10, xLdb_3, xLdb_5, xLdb_9, xLdl_4, xLdr_6, xSt_2, xStl_4, xStb_3, xStb_5, xLen_s, xLen_10, xCpy_s, xIv_s, xMx_s, mCont_s, mCont_n, w32_s, w64_s, upC_e, upC_n, upC_u, upC_c, mEn_c, mEn_n, mcw_i, mcw_l, mcw_r, mcat_n, mcat_i, mcat_l, mcat_r, xlong_i, xlong_l, xlong_r, xlong_n, s1_at, s2_at, ↓reduceIte, reduceCtorEq, and_self, true_and, and_true, false_and, and_false, Bool.false_eq_true, ne_eq, not_true_eq_false, not_false_eq_true, or_true, true_or, or_false, false_or, or_self, Int.tmod_eq_emod_of_nonneg, Int.tdiv_eq_ediv_of_nonneg, Classical.not_not, xSw, rOK, b2i_ok, b2i_0, b2i_1, Nat.reduceAdd, Nat.reduceSub, Nat.reduceMul, Nat.reduceEqDiff, Nat.reduceLeDiff, Nat.reduceLT, Int.reduceAdd, Int.reduceSub, Int.reduceMul, Int.reduceNeg, Int.reduceEq, Int.reduceNe, Int.reduceLT, Int.reduceLE, Int.reduceToNat, Int.reduceTDiv, Int.reduceTMod, b2i_em]
  refine loopL (P := fun k lv M' => fr SP M M' ∧ pI ru A (M 9 49) k (M' 9) ∧ (RF (M 9) A → 0 ≤ A 131 ∧ A 131 ≤ 40 → RF (M' 9) (faA ru A k)) ∧ lv 0 = some (vr 63) ∧ lv 1 = some (vi (orS (fpG ru A (ntA ru A)) 36)) ∧ lv 2 = some (vi (cn (fun b => fsI ru A (b : Nat)) k)) ∧ lv 3 = some (vi (k : Nat))) (G := fun lv M' => rn (d + 6) 22 K 13 lv [] M') (A 0).toNat 0 (Nat.zero_le _) _ _ ⟨f12, by rw [f12b 9 (by decide)]; exact pI_0 h.2.1 rfl, fun e _ => by rw [f12b 9 (by decide)]; exact e, ?_, ?_, ?_, ?_⟩ (fun k hk ih lv M' hI => ?_) (fun lv M' hI => ?_)
  any_goals (simp [s1_at, s2_at, mEn_c, mcw_r, mcw_i, mcw_l, xlong_i, xlong_r, xlong_l, xlong_n, cn]; done)
  · obtain ⟨hf, hp, hF, g0, g1, g2, g3⟩ := hI
    have f2' : M' 2 = M 2 := hf 2 (by decide)
    have f4' : M' 4 = M 4 := hf 4 (by decide)
    have f6' : M' 6 = M 6 := hf 6 (by decide)
    have f63' : M' 63 = M 63 := hf 63 (by decide)
    have eb : iAnd (iShr (orS (fpG ru A (ntA ru A)) 36) k) 1 = bitA ru A k := rfl
    have bk := bitA_01 (ru := ru) (A := A) (b := k) (by omega)
    have bu := bitA_up (ru := ru) (A := A) (b := k) (by omega)
    have wk := hd.2.2.2.1 k (by omega)
    have wl := hw.2.2.1 k (by omega)
    have q := hp.1 k (by omega)
    rw [if_neg (by omega), if_neg (by omega), if_neg (by omega)] at q
    have hcn := cn_n (G := fun b => fsI ru A (b : Nat)) k
    have hcs : cn (fun b => fsI ru A (b : Nat)) (k + 1) = if fsI ru A k = 1 then cn (fun b => fsI ru A (b : Nat)) k + 1 else cn (fun b => fsI ru A (b : Nat)) k := rfl
    have e4 : M 4 k = A (10 + k) := (h.1.2.2.1 k (by omega)).1
    have e48 : M' 9 48 = A 80 := hp.2.2.1
    have e49 : M' 9 49 = M 9 49 := hp.2.2.2.1
    have w80 := hd.1
    have w81 := hd.2.1
    rw [w22_13]
    rcases bk with bk | bk
    · have hn : fsI ru A k ≠ 1 := fun e => by have := fsI_bit e; omega
      rw [if_neg hn] at hcs
      have hp2 := pI_no hp (by omega) hn
      rw [bk, show A (89 + k) + 0 = M' 9 (6 + k) by omega, mU_s] at hp2
      have hF2 : RF (M 9) A → 0 ≤ A 131 ∧ A 131 ≤ 40 → RF (M' 9) (faA ru A (k + 1)) := fun a b => by
        rw [faA_s, if_neg hn]
        exact hF a b
      simp (disch := first | decide | omega) only [b22, w22_0, w22_1, w22_4, w22_5, w22_8, w22_9, w22_10, w22_11, w22_12, w22_14, w22_15, w22_18, w22_21, w22_24, w22_25, w22_26, w22_29, w22_32, w22_35, w22_36, w22_39, w22_42, w22_44, w22_45, w22_46, w22_47, w22_48, w22_49, w22_50, w22_51, w22_52, w22_55, w22_58, w22_60, w22_61, w22_62, w22_63, w22_64, w22_65, w22_68, w22_71, w22_74, w22_75, w22_78, w22_79, w22_82, w22_85, w22_88, w22_91, w22_92, w22_95, w22_98, w22_99, w22_102, w22_105, w22_107, w22_108, w22_109, w22_110, w22_111, w22_112, w22_113, tc63, tr63_0, tr63_1, tr63_3, tr63_4, tr63_5, tr63_6, ta64, tn64, ta65, tn65, ta66, tn66, ta67, tn67, tc2, tr2_2, tr2_3, tr2_4, tr2_5, tr2_6, tr2_7, tr2_8, tr2_9, tr2_12, tr2_13, tr2_15, ta3, tn3, ta4, tn4, ta5, tn5, ta6, tn6, ta7, tn7, ta8, tn8, ta9, tn9, ta10, tn10, ta11, tn11, ta12, tn12, ta13, tn13, xLoad_i, xLoad_l, xLoad_r, xInc_s, xBr_t, xBr_f, xNz_s, xGf_s, xPf_s, xPz_s, xLd_2, xLd_7, xLd_10, xLdb_3, xLdb_5, xLdb_9, xLdl_4, xLdr_6, xSt_2, xStl_4, xStb_3, xStb_5, xLen_s, xLen_10, xCpy_s, xIv_s, xMx_s, mCont_s, mCont_n, w32_s, w64_s, upC_e, upC_n, upC_u, upC_c, mEn_c, mEn_n, mcw_i, mcw_l, mcw_r, mcat_n, mcat_i, mcat_l, mcat_r, xlong_i, xlong_l, xlong_r, xlong_n, s1_at, s2_at, ↓reduceIte, reduceCtorEq, and_self, true_and, and_true, false_and, and_false, Bool.false_eq_true, ne_eq, not_true_eq_false, not_false_eq_true, or_true, true_or, or_false, false_or, or_self, Int.tmod_eq_emod_of_nonneg, Int.tdiv_eq_ediv_of_nonneg, Classical.not_not, xSw, rOK, b2i_ok, b2i_0, b2i_1, Nat.reduceAdd, Nat.reduceSub, Nat.reduceMul, Nat.reduceEqDiff, Nat.reduceLeDiff, Nat.reduceLT, Int.reduceAdd, Int.reduceSub, Int.reduceMul, Int.reduceNeg, Int.reduceEq, Int.reduceNe, Int.reduceLT, Int.reduceLE, Int.reduceToNat, Int.reduceTDiv, Int.reduceTMod, b2i_em, g0, g1, g2, g3, f2', s0, c_isIn, eb, bk, b2i_f]
      refine ih _ _ ⟨hf, hp2, hF2, ?_, ?_, ?_, ?_⟩
      all_goals simp [s1_at, s2_at, mEn_c, mcw_r, mcw_i, mcw_l, xlong_i, xlong_r, xlong_l, xlong_n, g0, g1, g2, g3, hcs]
    · have up := bu bk
      have e6 : M' 9 (6 + k) + 1 = A (89 + k) + bitA ru A k := by omega
      simp (disch := first | decide | omega) only [b22, w22_0, w22_1, w22_4, w22_5, w22_8, w22_9, w22_10, w22_11, w22_12, w22_14, w22_15, w22_18, w22_21, w22_24, w22_25, w22_26, w22_29, w22_32, w22_35, w22_36, w22_39, w22_42, w22_44, w22_45, w22_46, w22_47, w22_48, w22_49, w22_50, w22_51, w22_52, w22_55, w22_58, w22_60, w22_61, w22_62, w22_63, w22_64, w22_65, w22_68, w22_71, w22_74, w22_75, w22_78, w22_79, w22_82, w22_85, w22_88, w22_91, w22_92, w22_95, w22_98, w22_99, w22_102, w22_105, w22_107, w22_108, w22_109, w22_110, w22_111, w22_112, w22_113, tc63, tr63_0, tr63_1, tr63_3, tr63_4, tr63_5, tr63_6, ta64, tn64, ta65, tn65, ta66, tn66, ta67, tn67, tc2, tr2_2, tr2_3, tr2_4, tr2_5, tr2_6, tr2_7, tr2_8, tr2_9, tr2_12, tr2_13, tr2_15, ta3, tn3, ta4, tn4, ta5, tn5, ta6, tn6, ta7, tn7, ta8, tn8, ta9, tn9, ta10, tn10, ta11, tn11, ta12, tn12, ta13, tn13, xLoad_i, xLoad_l, xLoad_r, xInc_s, xBr_t, xBr_f, xNz_s, xGf_s, xPf_s, xPz_s, xLd_2, xLd_7, xLd_10, xLdb_3, xLdb_5, xLdb_9, xLdl_4, xLdr_6, xSt_2, xStl_4, xStb_3, xStb_5, xLen_s, xLen_10, xCpy_s, xIv_s, xMx_s, mCont_s, mCont_n, w32_s, w64_s, upC_e, upC_n, upC_u, upC_c, mEn_c, mEn_n, mcw_i, mcw_l, mcw_r, mcat_n, mcat_i, mcat_l, mcat_r, xlong_i, xlong_l, xlong_r, xlong_n, s1_at, s2_at, ↓reduceIte, reduceCtorEq, and_self, true_and, and_true, false_and, and_false, Bool.false_eq_true, ne_eq, not_true_eq_false, not_false_eq_true, or_true, true_or, or_false, false_or, or_self, Int.tmod_eq_emod_of_nonneg, Int.tdiv_eq_ediv_of_nonneg, Classical.not_not, xSw, rOK, b2i_ok, b2i_0, b2i_1, Nat.reduceAdd, Nat.reduceSub, Nat.reduceMul, Nat.reduceEqDiff, Nat.reduceLeDiff, Nat.reduceLT, Int.reduceAdd, Int.reduceSub, Int.reduceMul, Int.reduceNeg, Int.reduceEq, Int.reduceNe, Int.reduceLT, Int.reduceLE, Int.reduceToNat, Int.reduceTDiv, Int.reduceTMod, b2i_em, g0, g1, g2, g3, f2', s0, c_isIn, eb, bk, b2i_t, mU_e]
      have hM6 : ∀ i, i ≠ 9 → (upC M' 9 (mU (M' 9) (6 + (k : Int)) (M' 9 (6 + (k : Int)) + 1))) i = M' i := fun i hi => upC_n hi
      have hM9 : (upC M' 9 (mU (M' 9) (6 + (k : Int)) (M' 9 (6 + (k : Int)) + 1))) 9 = mU (M' 9) (6 + k) (A (89 + k) + bitA ru A k) := by rw [upC_e, e6]
      generalize hM3 : upC M' 9 (mU (M' 9) (6 + (k : Int)) (M' 9 (6 + (k : Int)) + 1)) = M3 at *
      have f3 : fr SP M M3 := fun i hi => by rw [hM6 i (fun e => hi (by rw [e]; decide))]; exact hf i hi
      have c49 : M3 9 49 = A 81 := by rw [hM9, mU_n (by omega), e49, hhr]
      have c48 : M3 9 48 = A 80 := by rw [hM9, mU_n (by omega), e48]
      have ck : M3 9 k = A (83 + k) := by rw [hM9, mU_n (by omega), q.1]
      have c6 : M3 9 (6 + k) = A (89 + k) + bitA ru A k := by rw [hM9, mU_e]
      have c63 : M3 63 2 = 0 := by rw [hM6 63 (by decide), f63', ha]
      have c4 : M3 4 k = A (10 + k) := by rw [hM6 4 (by decide), f4', e4]
      refine c_holdsNow (CR_fr h.2.2.2.2.2 f3 (by decide)) (by omega) (by omega) (by omega) (by omega) (by omega) (by omega) (by omega) (fun M4 f4 => ?_)
      rw [c49, c48, ck, c6, c63, c4, Int.add_zero]
      have hfs : fsI ru A k = 1 ↔ holdsP (ru 2) (A 80) (A 81) k (A (83 + k)) (A (10 + k)) (A (89 + k) + bitA ru A k) ≤ A (89 + k) + bitA ru A k := by
        unfold fsI
        rw [bk]
        by_cases z : holdsP (ru 2) (A 80) (A 81) k (A (83 + k)) (A (10 + k)) (A (89 + k) + 1) ≤ A (89 + k) + 1
        · rw [if_pos ⟨rfl, z⟩]; exact ⟨fun _ => z, fun _ => rfl⟩
        · rw [if_neg (fun w => z w.2)]; exact ⟨fun w => absurd w (by decide), fun w => absurd w z⟩
      have f4' : fr SP M M4 := fr_tr f3 f4 (by decide) (by decide)
      have d9 : M4 9 = M3 9 := f4 9 (by decide)
      by_cases hn : fsI ru A k = 1
      · have hn2 := hfs.mp hn
        rw [if_pos hn] at hcs
        simp (disch := first | decide | omega) only [b22, w22_0, w22_1, w22_4, w22_5, w22_8, w22_9, w22_10, w22_11, w22_12, w22_14, w22_15, w22_18, w22_21, w22_24, w22_25, w22_26, w22_29, w22_32, w22_35, w22_36, w22_39, w22_42, w22_44, w22_45, w22_46, w22_47, w22_48, w22_49, w22_50, w22_51, w22_52, w22_55, w22_58, w22_60, w22_61, w22_62, w22_63, w22_64, w22_65, w22_68, w22_71, w22_74, w22_75, w22_78, w22_79, w22_82, w22_85, w22_88, w22_91, w22_92, w22_95, w22_98, w22_99, w22_102, w22_105, w22_107, w22_108, w22_109, w22_110, w22_111, w22_112, w22_113, tc63, tr63_0, tr63_1, tr63_3, tr63_4, tr63_5, tr63_6, ta64, tn64, ta65, tn65, ta66, tn66, ta67, tn67, tc2, tr2_2, tr2_3, tr2_4, tr2_5, tr2_6, tr2_7, tr2_8, tr2_9, tr2_12, tr2_13, tr2_15, ta3, tn3, ta4, tn4, ta5, tn5, ta6, tn6, ta7, tn7, ta8, tn8, ta9, tn9, ta10, tn10, ta11, tn11, ta12, tn12, ta13, tn13, xLoad_i, xLoad_l, xLoad_r, xInc_s, xBr_t, xBr_f, xNz_s, xGf_s, xPf_s, xPz_s, xLd_2, xLd_7, xLd_10, xLdb_3, xLdb_5, xLdb_9, xLdl_4, xLdr_6, xSt_2, xStl_4, xStb_3, xStb_5, xLen_s, xLen_10, xCpy_s, xIv_s, xMx_s, mCont_s, mCont_n, w32_s, w64_s, upC_e, upC_n, upC_u, upC_c, mEn_c, mEn_n, mcw_i, mcw_l, mcw_r, mcat_n, mcat_i, mcat_l, mcat_r, xlong_i, xlong_l, xlong_r, xlong_n, s1_at, s2_at, ↓reduceIte, reduceCtorEq, and_self, true_and, and_true, false_and, and_false, Bool.false_eq_true, ne_eq, not_true_eq_false, not_false_eq_true, or_true, true_or, or_false, false_or, or_self, Int.tmod_eq_emod_of_nonneg, Int.tdiv_eq_ediv_of_nonneg, Classical.not_not, xSw, rOK, b2i_ok, b2i_0, b2i_1, Nat.reduceAdd, Nat.reduceSub, Nat.reduceMul, Nat.reduceEqDiff, Nat.reduceLeDiff, Nat.reduceLT, Int.reduceAdd, Int.reduceSub, Int.reduceMul, Int.reduceNeg, Int.reduceEq, Int.reduceNe, Int.reduceLT, Int.reduceLE, Int.reduceToNat, Int.reduceTDiv, Int.reduceTMod, b2i_em, g0, g1, g2, g3, d9, c6]
        have d2 : M4 2 = M 2 := f4' 2 (by decide)
        have d6 : M4 6 = M 6 := f4' 6 (by decide)
        have d18 : M4 9 (18 + k) = A (101 + k) := by rw [d9, hM9, mU_n (by omega), q.2.2.2]
        rw [c_collapse (by omega) (by rw [d2, s1]; exact hw1) (by rw [d18]; omega) (by rw [d2, d6]; exact CX_w h) (by rw [d9, hM9, mU_n (by omega)]; exact hp.2.2.2.2.2) (by rw [d9, c49]; omega) (by rw [d9, c6]; omega)]
        simp (disch := first | decide | omega) only [b22, w22_0, w22_1, w22_4, w22_5, w22_8, w22_9, w22_10, w22_11, w22_12, w22_14, w22_15, w22_18, w22_21, w22_24, w22_25, w22_26, w22_29, w22_32, w22_35, w22_36, w22_39, w22_42, w22_44, w22_45, w22_46, w22_47, w22_48, w22_49, w22_50, w22_51, w22_52, w22_55, w22_58, w22_60, w22_61, w22_62, w22_63, w22_64, w22_65, w22_68, w22_71, w22_74, w22_75, w22_78, w22_79, w22_82, w22_85, w22_88, w22_91, w22_92, w22_95, w22_98, w22_99, w22_102, w22_105, w22_107, w22_108, w22_109, w22_110, w22_111, w22_112, w22_113, tc63, tr63_0, tr63_1, tr63_3, tr63_4, tr63_5, tr63_6, ta64, tn64, ta65, tn65, ta66, tn66, ta67, tn67, tc2, tr2_2, tr2_3, tr2_4, tr2_5, tr2_6, tr2_7, tr2_8, tr2_9, tr2_12, tr2_13, tr2_15, ta3, tn3, ta4, tn4, ta5, tn5, ta6, tn6, ta7, tn7, ta8, tn8, ta9, tn9, ta10, tn10, ta11, tn11, ta12, tn12, ta13, tn13, xLoad_i, xLoad_l, xLoad_r, xInc_s, xBr_t, xBr_f, xNz_s, xGf_s, xPf_s, xPz_s, xLd_2, xLd_7, xLd_10, xLdb_3, xLdb_5, xLdb_9, xLdl_4, xLdr_6, xSt_2, xStl_4, xStb_3, xStb_5, xLen_s, xLen_10, xCpy_s, xIv_s, xMx_s, mCont_s, mCont_n, w32_s, w64_s, upC_e, upC_n, upC_u, upC_c, mEn_c, mEn_n, mcw_i, mcw_l, mcw_r, mcat_n, mcat_i, mcat_l, mcat_r, xlong_i, xlong_l, xlong_r, xlong_n, s1_at, s2_at, ↓reduceIte, reduceCtorEq, and_self, true_and, and_true, false_and, and_false, Bool.false_eq_true, ne_eq, not_true_eq_false, not_false_eq_true, or_true, true_or, or_false, false_or, or_self, Int.tmod_eq_emod_of_nonneg, Int.tdiv_eq_ediv_of_nonneg, Classical.not_not, xSw, rOK, b2i_ok, b2i_0, b2i_1, Nat.reduceAdd, Nat.reduceSub, Nat.reduceMul, Nat.reduceEqDiff, Nat.reduceLeDiff, Nat.reduceLT, Int.reduceAdd, Int.reduceSub, Int.reduceMul, Int.reduceNeg, Int.reduceEq, Int.reduceNe, Int.reduceLT, Int.reduceLE, Int.reduceToNat, Int.reduceTDiv, Int.reduceTMod, b2i_em, g0, g1, g2, g3]
        have hwl : 0 ≤ M4 9 51 ∧ M4 9 51 ≤ 40 := by rw [d9, hM9, mU_n (by omega)]; exact hp.2.2.2.2.2
        have hp2 : pI ru A (M 9 49) (k + 1) (clB M4 k) := by
          unfold clB
          rw [d2, s1]
          refine pI_yes hp (by omega) hn (fun i hi => ?_) ?_ hw1
          · unfold mU
            by_cases z1 : i = 18 + (k : Int)
            · rw [if_pos z1, if_pos z1]
            · rw [if_neg z1, if_neg z1]
              by_cases z2 : i = 12 + (k : Int)
              · rw [if_pos z2, if_pos z2]
              · rw [if_neg z2, if_neg z2, wfR_lo hi hwl, d9, hM9]
                rfl
          · rw [mU_n (by omega), mU_n (by omega)]
            exact wfR_51 hwl
        have hF2 : RF (M 9) A → 0 ≤ A 131 ∧ A 131 ≤ 40 → RF (clB M4 k) (faA ru A (k + 1)) := fun a b => by
          have hF3 := hF a b
          have hv : pkF M4 k = (((k : Int) * 1000 + A 81) * 100 + (A (89 + k) + 1)) * 1000 + brn A k := by
            unfold pkF
            rw [d9, c49, c6, bk]
            congr 1
            unfold brn
            rw [← d9, d18, d2, s1]
            refine bS_iff rfl (fun l hl => ?_)
            have ql := hp.2.1 l (by omega)
            have ql1 := ql.1 (by omega)
            refine ⟨?_, ?_⟩
            · show M4 9 (24 + (l : Int)) = k ↔ A (107 + (l : Int)) = k
              rw [d9, hM9, mU_n (by omega), ql1]
              split <;> omega
            · rw [d6]; exact (h.1.2.2.2 l (by omega)).1
          have hrow : ∀ i, 51 ≤ i → clB M4 k i = wfG (M' 9) ((((k : Int) * 1000 + A 81) * 100 + (A (89 + k) + 1)) * 1000 + brn A k) i := by
            intro i hi
            unfold clB
            rw [d2, s1, clR_at (by omega), if_neg (by omega), if_neg (by omega), mU_n (by omega), mU_n (by omega)]
            unfold wfR wfG
            rw [hv, d9, hM9, mU_n (show (51 : Int) ≠ 6 + k by omega)]
            split
            · unfold mU mCpy
              by_cases y1 : i = 51
              · rw [if_pos y1, if_pos y1]
              · rw [if_neg y1, if_neg y1]
                by_cases y2 : i = 91
                · rw [if_pos y2, if_pos y2]
                · rw [if_neg y2, if_neg y2]
                  by_cases y3 : 52 ≤ i ∧ i < 52 + 39
                  · rw [if_pos y3, if_pos y3]; exact if_neg (by omega)
                  · rw [if_neg y3, if_neg y3]; exact if_neg (by omega)
            · unfold mU
              by_cases y1 : i = 51
              · rw [if_pos y1, if_pos y1]
              · rw [if_neg y1, if_neg y1]
                by_cases y2 : i = 52 + M' 9 51
                · rw [if_pos y2, if_pos y2]
                · rw [if_neg y2, if_neg y2, if_neg (by omega)]
          have hR2 := faA_R (ru := ru) b k
          have := RF_push (b := (k : Int)) (h := A 81) (w := A (89 + k) + 1) (br := brn A k) hF3 hR2
          rw [faA_s, if_pos hn]
          refine ⟨by rw [hrow 51 (by omega)]; exact this.1, fun i hi => ?_⟩
          rw [hrow (52 + i) (by omega)]
          exact this.2 i hi
        refine ih _ _ ⟨fr_up (by decide) f4', by rw [upC_e]; exact hp2, by rw [upC_e]; exact hF2, ?_, ?_, ?_, ?_⟩
        all_goals simp [s1_at, s2_at, mEn_c, mcw_r, mcw_i, mcw_l, xlong_i, xlong_r, xlong_l, xlong_n, g0, g1, g2, g3, hcs]
      · have hn2 := fun z => hn (hfs.mpr z)
        rw [if_neg hn] at hcs
        simp (disch := first | decide | omega) only [b22, w22_0, w22_1, w22_4, w22_5, w22_8, w22_9, w22_10, w22_11, w22_12, w22_14, w22_15, w22_18, w22_21, w22_24, w22_25, w22_26, w22_29, w22_32, w22_35, w22_36, w22_39, w22_42, w22_44, w22_45, w22_46, w22_47, w22_48, w22_49, w22_50, w22_51, w22_52, w22_55, w22_58, w22_60, w22_61, w22_62, w22_63, w22_64, w22_65, w22_68, w22_71, w22_74, w22_75, w22_78, w22_79, w22_82, w22_85, w22_88, w22_91, w22_92, w22_95, w22_98, w22_99, w22_102, w22_105, w22_107, w22_108, w22_109, w22_110, w22_111, w22_112, w22_113, tc63, tr63_0, tr63_1, tr63_3, tr63_4, tr63_5, tr63_6, ta64, tn64, ta65, tn65, ta66, tn66, ta67, tn67, tc2, tr2_2, tr2_3, tr2_4, tr2_5, tr2_6, tr2_7, tr2_8, tr2_9, tr2_12, tr2_13, tr2_15, ta3, tn3, ta4, tn4, ta5, tn5, ta6, tn6, ta7, tn7, ta8, tn8, ta9, tn9, ta10, tn10, ta11, tn11, ta12, tn12, ta13, tn13, xLoad_i, xLoad_l, xLoad_r, xInc_s, xBr_t, xBr_f, xNz_s, xGf_s, xPf_s, xPz_s, xLd_2, xLd_7, xLd_10, xLdb_3, xLdb_5, xLdb_9, xLdl_4, xLdr_6, xSt_2, xStl_4, xStb_3, xStb_5, xLen_s, xLen_10, xCpy_s, xIv_s, xMx_s, mCont_s, mCont_n, w32_s, w64_s, upC_e, upC_n, upC_u, upC_c, mEn_c, mEn_n, mcw_i, mcw_l, mcw_r, mcat_n, mcat_i, mcat_l, mcat_r, xlong_i, xlong_l, xlong_r, xlong_n, s1_at, s2_at, ↓reduceIte, reduceCtorEq, and_self, true_and, and_true, false_and, and_false, Bool.false_eq_true, ne_eq, not_true_eq_false, not_false_eq_true, or_true, true_or, or_false, false_or, or_self, Int.tmod_eq_emod_of_nonneg, Int.tdiv_eq_ediv_of_nonneg, Classical.not_not, xSw, rOK, b2i_ok, b2i_0, b2i_1, Nat.reduceAdd, Nat.reduceSub, Nat.reduceMul, Nat.reduceEqDiff, Nat.reduceLeDiff, Nat.reduceLT, Int.reduceAdd, Int.reduceSub, Int.reduceMul, Int.reduceNeg, Int.reduceEq, Int.reduceNe, Int.reduceLT, Int.reduceLE, Int.reduceToNat, Int.reduceTDiv, Int.reduceTMod, b2i_em, g0, g1, g2, g3, d9, c6]
        refine ih _ _ ⟨f4', by rw [d9, hM9]; exact pI_no hp (by omega) hn, fun a b => ?_, ?_, ?_, ?_, ?_⟩
        any_goals (simp [s1_at, s2_at, mEn_c, mcw_r, mcw_i, mcw_l, xlong_i, xlong_r, xlong_l, xlong_n, g0, g1, g2, g3, hcs]; done)
        have hF3 := hF a b
        rw [faA_s, if_neg hn, d9, hM9]
        refine ⟨by rw [mU_n (by omega)]; exact hF3.1, fun i hi => by rw [mU_n (by omega)]; exact hF3.2 i hi⟩
  · obtain ⟨hf, hp, hF, g0, g1, g2, g3⟩ := hI
    have f2' : M' 2 = M 2 := hf 2 (by decide)
    have f4' : M' 4 = M 4 := hf 4 (by decide)
    rw [w22_13]
    simp (disch := first | decide | omega) only [b22, w22_0, w22_1, w22_4, w22_5, w22_8, w22_9, w22_10, w22_11, w22_12, w22_14, w22_15, w22_18, w22_21, w22_24, w22_25, w22_26, w22_29, w22_32, w22_35, w22_36, w22_39, w22_42, w22_44, w22_45, w22_46, w22_47, w22_48, w22_49, w22_50, w22_51, w22_52, w22_55, w22_58, w22_60, w22_61, w22_62, w22_63, w22_64, w22_65, w22_68, w22_71, w22_74, w22_75, w22_78, w22_79, w22_82, w22_85, w22_88, w22_91, w22_92, w22_95, w22_98, w22_99, w22_102, w22_105, w22_107, w22_108, w22_109, w22_110, w22_111, w22_112, w22_113, tc63, tr63_0, tr63_1, tr63_3, tr63_4, tr63_5, tr63_6, ta64, tn64, ta65, tn65, ta66, tn66, ta67, tn67, tc2, tr2_2, tr2_3, tr2_4, tr2_5, tr2_6, tr2_7, tr2_8, tr2_9, tr2_12, tr2_13, tr2_15, ta3, tn3, ta4, tn4, ta5, tn5, ta6, tn6, ta7, tn7, ta8, tn8, ta9, tn9, ta10, tn10, ta11, tn11, ta12, tn12, ta13, tn13, xLoad_i, xLoad_l, xLoad_r, xInc_s, xBr_t, xBr_f, xNz_s, xGf_s, xPf_s, xPz_s, xLd_2, xLd_7, xLd_10, xLdb_3, xLdb_5, xLdb_9, xLdl_4, xLdr_6, xSt_2, xStl_4, xStb_3, xStb_5, xLen_s, xLen_10, xCpy_s, xIv_s, xMx_s, mCont_s, mCont_n, w32_s, w64_s, upC_e, upC_n, upC_u, upC_c, mEn_c, mEn_n, mcw_i, mcw_l, mcw_r, mcat_n, mcat_i, mcat_l, mcat_r, xlong_i, xlong_l, xlong_r, xlong_n, s1_at, s2_at, ↓reduceIte, reduceCtorEq, and_self, true_and, and_true, false_and, and_false, Bool.false_eq_true, ne_eq, not_true_eq_false, not_false_eq_true, or_true, true_or, or_false, false_or, or_self, Int.tmod_eq_emod_of_nonneg, Int.tdiv_eq_ediv_of_nonneg, Classical.not_not, xSw, rOK, b2i_ok, b2i_0, b2i_1, Nat.reduceAdd, Nat.reduceSub, Nat.reduceMul, Nat.reduceEqDiff, Nat.reduceLeDiff, Nat.reduceLT, Int.reduceAdd, Int.reduceSub, Int.reduceMul, Int.reduceNeg, Int.reduceEq, Int.reduceNe, Int.reduceLT, Int.reduceLE, Int.reduceToNat, Int.reduceTDiv, Int.reduceTMod, b2i_em, g0, g1, g2, g3, f2', s0]
    rw [c_moveOn (by rw [f2', s0]; exact hw0) (by rw [f2', s1]; exact hw1) (fun j hj => by
      have q := (hp.2.1 j hj).2.2
      have w := hd.2.2.2.2 j hj
      rw [q]
      split <;> omega)]
    have hE := pI_end hp hw hd (len := M' 4) (fun b hb => by rw [f4']; exact (h.1.2.2.1 b hb).1)
    have hmv := fun i => mvR_at (rw0 := M' 9) (len := M' 4) (nb := A 0) (show (A 1).toNat ≤ 12 by omega) i
    have h49 : mvR (M' 9) (M' 4) (A 0) (A 1).toNat 49 = A 81 := by rw [hmv, if_neg (by omega), if_neg (by omega), hp.2.2.2.1, hhr]
    rw [f2', s0, s1]
    have w81 := hd.2.1
    simp (disch := first | decide | omega) only [b22, w22_0, w22_1, w22_4, w22_5, w22_8, w22_9, w22_10, w22_11, w22_12, w22_14, w22_15, w22_18, w22_21, w22_24, w22_25, w22_26, w22_29, w22_32, w22_35, w22_36, w22_39, w22_42, w22_44, w22_45, w22_46, w22_47, w22_48, w22_49, w22_50, w22_51, w22_52, w22_55, w22_58, w22_60, w22_61, w22_62, w22_63, w22_64, w22_65, w22_68, w22_71, w22_74, w22_75, w22_78, w22_79, w22_82, w22_85, w22_88, w22_91, w22_92, w22_95, w22_98, w22_99, w22_102, w22_105, w22_107, w22_108, w22_109, w22_110, w22_111, w22_112, w22_113, tc63, tr63_0, tr63_1, tr63_3, tr63_4, tr63_5, tr63_6, ta64, tn64, ta65, tn65, ta66, tn66, ta67, tn67, tc2, tr2_2, tr2_3, tr2_4, tr2_5, tr2_6, tr2_7, tr2_8, tr2_9, tr2_12, tr2_13, tr2_15, ta3, tn3, ta4, tn4, ta5, tn5, ta6, tn6, ta7, tn7, ta8, tn8, ta9, tn9, ta10, tn10, ta11, tn11, ta12, tn12, ta13, tn13, xLoad_i, xLoad_l, xLoad_r, xInc_s, xBr_t, xBr_f, xNz_s, xGf_s, xPf_s, xPz_s, xLd_2, xLd_7, xLd_10, xLdb_3, xLdb_5, xLdb_9, xLdl_4, xLdr_6, xSt_2, xStl_4, xStb_3, xStb_5, xLen_s, xLen_10, xCpy_s, xIv_s, xMx_s, mCont_s, mCont_n, w32_s, w64_s, upC_e, upC_n, upC_u, upC_c, mEn_c, mEn_n, mcw_i, mcw_l, mcw_r, mcat_n, mcat_i, mcat_l, mcat_r, xlong_i, xlong_l, xlong_r, xlong_n, s1_at, s2_at, ↓reduceIte, reduceCtorEq, and_self, true_and, and_true, false_and, and_false, Bool.false_eq_true, ne_eq, not_true_eq_false, not_false_eq_true, or_true, true_or, or_false, false_or, or_self, Int.tmod_eq_emod_of_nonneg, Int.tdiv_eq_ediv_of_nonneg, Classical.not_not, xSw, rOK, b2i_ok, b2i_0, b2i_1, Nat.reduceAdd, Nat.reduceSub, Nat.reduceMul, Nat.reduceEqDiff, Nat.reduceLeDiff, Nat.reduceLT, Int.reduceAdd, Int.reduceSub, Int.reduceMul, Int.reduceNeg, Int.reduceEq, Int.reduceNe, Int.reduceLT, Int.reduceLE, Int.reduceToNat, Int.reduceTDiv, Int.reduceTMod, b2i_em, g0, g1, g2, g3, h49]
    have hfr : fr SP M (upC M' 9 (mU (mvR (M' 9) (M' 4) (A 0) (A 1).toNat) 49 (A 81 + 1))) := fr_up (by decide) hf
    refine hK _ hfr ⟨?_, ?_, ?_, hA_WS hw, hA_WD hw hd hh, CR_fr h.2.2.2.2.2 hfr (by decide)⟩ (fun a b => ?_)
    · have hS := SV_fr h.1 hfr (by decide)
      refine ⟨by rw [hA_lo (by decide) (by decide)]; exact hS.1, by rw [hA_lo (by decide) (by decide)]; exact hS.2.1, fun b hb => ?_, fun l hl => ?_⟩
      · rw [hA_lo (i := 10 + b) (by omega) (by omega), hA_lo (i := 16 + b) (by omega) (by omega)]; exact hS.2.2.1 b hb
      · rw [hA_lo (i := 22 + 3 * l) (by omega) (by omega), hA_lo (i := 23 + 3 * l) (by omega) (by omega), hA_lo (i := 24 + 3 * l) (by omega) (by omega)]; exact hS.2.2.2 l hl
    · rw [upC_e]
      refine ⟨fun b hb => ?_, fun l hl => ?_, ?_, ?_, ?_⟩
      · rw [mU_n (by omega), mU_n (by omega), mU_n (by omega), mU_n (by omega)]; exact hE.1 b hb
      · rw [mU_n (by omega), mU_n (by omega)]; exact hE.2.1 l hl
      · rw [mU_n (by omega)]; exact hE.2.2.1
      · rw [mU_n (by omega)]; exact hE.2.2.2.1
      · rw [mU_n (by omega)]; exact hE.2.2.2.2
    · rw [upC_e, mU_e, upC_n (by decide), hf 63 (by decide), ha, hA_81]
      omega
    · rw [upC_e]
      have hF3 := hF a b
      refine ⟨?_, fun i hi => ?_⟩
      · rw [mU_n (by omega), hmv, if_neg (by omega), if_neg (by omega), hA_hi (by decide)]; exact hF3.1
      · rw [hA_hi (by decide)] at hi
        have hi2 := (faA_R (ru := ru) b (A 0).toNat)
        rw [mU_n (by omega), hmv, if_neg (by omega), if_neg (by omega), hF3.2 i hi]
        unfold pkA
        rw [hA_hi (by omega), hA_hi (by omega), hA_hi (by omega), hA_hi (by omega)]
