/-! text: the class reads -/
set_option maxHeartbeats 2000000 in
/-- a law -/
theorem c_rdL {d t n : Nat} {f : Int → Int} {D : List CLZ} {P : List (Int × Int)} {w : Int} {K : mQ} {M0 : mM} {o : Int × Int × List (Int × Int) × List TOK} (ht : t < 4) (hw : 0 ≤ w ∧ w ≤ 3) (hDl : D.length < 24) (hn : ¬ hasW w D) (hF : o.1 ≠ 0 → ∀ M', fT t M0 M' → M' 61 0 = o.1 → M' 61 1 = o.2.1 → K (some (vi 0)) M') (hE : o.1 = 0 → ∀ (M' : mM) (p' : Nat) (i' : Int) (lv' : mL), fT t M0 M' → IDs t n f p' (D ++ [(w, 0, 0, o.2.2.1)]) (P ++ o.2.2.1) M' → TKS f n o.2.2.2 p' → i' + o.2.2.2.length ≤ 300 → ((P ++ o.2.2.1).length : Int) ≤ i' → lv' 0 = some (vr 61) → lv' 2 = some (vi i') → rn (d + 8) 49 K 37 lv' [] M') : ∀ (T : List TOK) (p : Nat) (F : FR) (L : List (Int × Int)) (w1 aA : Bool) (N i : Int) (M : mM) (lv : mL), LR w n T F L w1 aA o → TKS f n T p → okM2 (decide (w = 1)) F w1 aA → dep F ≤ 8 → wfc w L [] (tyS w1 F) → LWs t n f p D P w N F L w1 aA M → fT t M0 M → 0 ≤ i → i + T.length ≤ 300 → N < i → lv 0 = some (vr 61) → lv 2 = some (vi i) → rn (d + 8) 49 K 37 lv [] M
  | [], p, F, L, w1, aA, N, i, M, lv, hR, hT, hk, hd, hwf, hM, hf0, i0, hi, hNi, g0, g2 => by
    rw [List.length_nil] at hi
    obtain ⟨hp, hb⟩ := hT
    have hBS := hM.1
    rw [w49_37]
    simp (disch := first | decide | omega) only [b49, w49_0, w49_1, w49_2, w49_5, w49_6, w49_9, w49_12, w49_13, w49_14, w49_17, w49_18, w49_19, w49_22, w49_23, w49_24, w49_27, w49_28, w49_31, w49_32, w49_35, w49_36, w49_38, w49_41, w49_44, w49_45, w49_48, w49_51, w49_52, w49_53, w49_55, w49_58, w49_59, w49_62, w49_63, w49_66, w49_67, w49_68, w49_69, w49_70, w49_71, w49_74, w49_77, w49_78, w49_81, w49_84, w49_85, w49_86, w49_89, w49_92, w49_95, w49_96, w49_97, w49_100, w49_103, w49_104, tc61, tr61_2, tr61_6, ta62, tn62, tc59, tr59_0, ta60, tn60, xLoad_i, xLoad_l, xLoad_r, xInc_s, xBr_t, xBr_f, xNz_s, xGf_s, xPf_s, xPz_s, xLd_2, xLd_7, xLd_10, xLdb_3, xLdb_5, xLdb_9, xLdl_4, xLdr_6, xSt_2, xStl_4, xStb_3, xStb_5, xLen_s, xLen_10, xCpy_s, xIv_s, xMx_s, mCont_s, mCont_n, w32_s, w64_s, upC_e, upC_n, upC_u, upC_c, mEn_c, mEn_n, mcw_i, mcw_l, mcw_r, mcat_n, mcat_i, mcat_l, mcat_r, xlong_i, xlong_l, xlong_r, xlong_n, s1_at, s2_at, ↓reduceIte, reduceCtorEq, and_self, true_and, and_true, false_and, and_false, Bool.false_eq_true, ne_eq, not_true_eq_false, not_false_eq_true, or_true, true_or, or_false, false_or, or_self, Int.tmod_eq_emod_of_nonneg, Int.tdiv_eq_ediv_of_nonneg, Classical.not_not, xSw, rOK, b2i_ok, b2i_0, b2i_1, Nat.reduceAdd, Nat.reduceSub, Nat.reduceMul, Nat.reduceEqDiff, Nat.reduceLeDiff, Nat.reduceLT, Int.reduceAdd, Int.reduceSub, Int.reduceMul, Int.reduceNeg, Int.reduceEq, Int.reduceNe, Int.reduceLT, Int.reduceLE, Int.reduceToNat, Int.reduceTDiv, Int.reduceTMod, b2i_em, g0, g2]
    refine c_nextEnd hBS.1 hBS.2.2.1 hp hb (fun M1 f1 a2 a3 => ?_)
    have hM1 := LWs_59 ht hM f1 a2
    obtain ⟨b0, b1, b2, b3, b4, b5⟩ := hM1
    have e4 : M1 61 4 = w := by
      obtain ⟨g, Lc, h0, hL, q3, q4, -⟩ := b3
      exact q4
    have w1' : ¬ w = -1 := by omega
    simp (disch := first | decide | omega) only [b49, w49_0, w49_1, w49_2, w49_5, w49_6, w49_9, w49_12, w49_13, w49_14, w49_17, w49_18, w49_19, w49_22, w49_23, w49_24, w49_27, w49_28, w49_31, w49_32, w49_35, w49_36, w49_38, w49_41, w49_44, w49_45, w49_48, w49_51, w49_52, w49_53, w49_55, w49_58, w49_59, w49_62, w49_63, w49_66, w49_67, w49_68, w49_69, w49_70, w49_71, w49_74, w49_77, w49_78, w49_81, w49_84, w49_85, w49_86, w49_89, w49_92, w49_95, w49_96, w49_97, w49_100, w49_103, w49_104, tc61, tr61_2, tr61_6, ta62, tn62, tc59, tr59_0, ta60, tn60, xLoad_i, xLoad_l, xLoad_r, xInc_s, xBr_t, xBr_f, xNz_s, xGf_s, xPf_s, xPz_s, xLd_2, xLd_7, xLd_10, xLdb_3, xLdb_5, xLdb_9, xLdl_4, xLdr_6, xSt_2, xStl_4, xStb_3, xStb_5, xLen_s, xLen_10, xCpy_s, xIv_s, xMx_s, mCont_s, mCont_n, w32_s, w64_s, upC_e, upC_n, upC_u, upC_c, mEn_c, mEn_n, mcw_i, mcw_l, mcw_r, mcat_n, mcat_i, mcat_l, mcat_r, xlong_i, xlong_l, xlong_r, xlong_n, s1_at, s2_at, ↓reduceIte, reduceCtorEq, and_self, true_and, and_true, false_and, and_false, Bool.false_eq_true, ne_eq, not_true_eq_false, not_false_eq_true, or_true, true_or, or_false, false_or, or_self, Int.tmod_eq_emod_of_nonneg, Int.tdiv_eq_ediv_of_nonneg, Classical.not_not, xSw, rOK, b2i_ok, b2i_0, b2i_1, Nat.reduceAdd, Nat.reduceSub, Nat.reduceMul, Nat.reduceEqDiff, Nat.reduceLeDiff, Nat.reduceLT, Int.reduceAdd, Int.reduceSub, Int.reduceMul, Int.reduceNeg, Int.reduceEq, Int.reduceNe, Int.reduceLT, Int.reduceLE, Int.reduceToNat, Int.reduceTDiv, Int.reduceTMod, b2i_em, g0, g2, e4, w1']
    refine c_faultLaw (d := d + 3) (v := 0) (N := N) ht hw hk hd b3 (by omega) ⟨by rw [b1.1]; omega, by rw [b1.1]; omega⟩ (fun e => by omega) (fun F' L' w1' aA' M' s _ _ => (LSt_43 s).elim) (fun L' M' s _ _ _ => (LEnd_43 s).elim) (fun fa s => ?_)
    have ho := hR fa s
    have hfa := LFt_n s
    have hr := hF (by rw [ho]; exact hfa.1)
    rw [ho] at hr
    clear hF hE hR
    have n0 := hfa.1
    simp (disch := first | decide | omega) only [b49, w49_0, w49_1, w49_2, w49_5, w49_6, w49_9, w49_12, w49_13, w49_14, w49_17, w49_18, w49_19, w49_22, w49_23, w49_24, w49_27, w49_28, w49_31, w49_32, w49_35, w49_36, w49_38, w49_41, w49_44, w49_45, w49_48, w49_51, w49_52, w49_53, w49_55, w49_58, w49_59, w49_62, w49_63, w49_66, w49_67, w49_68, w49_69, w49_70, w49_71, w49_74, w49_77, w49_78, w49_81, w49_84, w49_85, w49_86, w49_89, w49_92, w49_95, w49_96, w49_97, w49_100, w49_103, w49_104, tc61, tr61_2, tr61_6, ta62, tn62, tc59, tr59_0, ta60, tn60, xLoad_i, xLoad_l, xLoad_r, xInc_s, xBr_t, xBr_f, xNz_s, xGf_s, xPf_s, xPz_s, xLd_2, xLd_7, xLd_10, xLdb_3, xLdb_5, xLdb_9, xLdl_4, xLdr_6, xSt_2, xStl_4, xStb_3, xStb_5, xLen_s, xLen_10, xCpy_s, xIv_s, xMx_s, mCont_s, mCont_n, w32_s, w64_s, upC_e, upC_n, upC_u, upC_c, mEn_c, mEn_n, mcw_i, mcw_l, mcw_r, mcat_n, mcat_i, mcat_l, mcat_r, xlong_i, xlong_l, xlong_r, xlong_n, s1_at, s2_at, ↓reduceIte, reduceCtorEq, and_self, true_and, and_true, false_and, and_false, Bool.false_eq_true, ne_eq, not_true_eq_false, not_false_eq_true, or_true, true_or, or_false, false_or, or_self, Int.tmod_eq_emod_of_nonneg, Int.tdiv_eq_ediv_of_nonneg, Classical.not_not, xSw, rOK, b2i_ok, b2i_0, b2i_1, Nat.reduceAdd, Nat.reduceSub, Nat.reduceMul, Nat.reduceEqDiff, Nat.reduceLeDiff, Nat.reduceLT, Int.reduceAdd, Int.reduceSub, Int.reduceMul, Int.reduceNeg, Int.reduceEq, Int.reduceNe, Int.reduceLT, Int.reduceLE, Int.reduceToNat, Int.reduceTDiv, Int.reduceTMod, b2i_em, g0, g2, mU_e, mU_n, n0, a3]
    exact hr _ (fT_t hf0 (fT_t (fT_59 f1) fT_61)) (by simp (disch := first | decide | omega) only [upC_e, upC_n, mU_e, mU_n]) (by simp (disch := first | decide | omega) only [upC_e, upC_n, mU_e, mU_n])
  | tk :: T, p, F, L, w1, aA, N, i, M, lv, hR, hT, hk, hd, hwf, hM, hf0, i0, hi, hNi, g0, g2 => by
    rw [List.length_cons] at hi
    obtain ⟨q, h1, h2⟩ := hT
    have hok := TK_ok h1
    obtain ⟨hRS, hRE, hRF⟩ := hR
    obtain ⟨k, v, a⟩ := tk
    have hBS := hM.1
    rw [w49_37]
    simp (disch := first | decide | omega) only [b49, w49_0, w49_1, w49_2, w49_5, w49_6, w49_9, w49_12, w49_13, w49_14, w49_17, w49_18, w49_19, w49_22, w49_23, w49_24, w49_27, w49_28, w49_31, w49_32, w49_35, w49_36, w49_38, w49_41, w49_44, w49_45, w49_48, w49_51, w49_52, w49_53, w49_55, w49_58, w49_59, w49_62, w49_63, w49_66, w49_67, w49_68, w49_69, w49_70, w49_71, w49_74, w49_77, w49_78, w49_81, w49_84, w49_85, w49_86, w49_89, w49_92, w49_95, w49_96, w49_97, w49_100, w49_103, w49_104, tc61, tr61_2, tr61_6, ta62, tn62, tc59, tr59_0, ta60, tn60, xLoad_i, xLoad_l, xLoad_r, xInc_s, xBr_t, xBr_f, xNz_s, xGf_s, xPf_s, xPz_s, xLd_2, xLd_7, xLd_10, xLdb_3, xLdb_5, xLdb_9, xLdl_4, xLdr_6, xSt_2, xStl_4, xStb_3, xStb_5, xLen_s, xLen_10, xCpy_s, xIv_s, xMx_s, mCont_s, mCont_n, w32_s, w64_s, upC_e, upC_n, upC_u, upC_c, mEn_c, mEn_n, mcw_i, mcw_l, mcw_r, mcat_n, mcat_i, mcat_l, mcat_r, xlong_i, xlong_l, xlong_r, xlong_n, s1_at, s2_at, ↓reduceIte, reduceCtorEq, and_self, true_and, and_true, false_and, and_false, Bool.false_eq_true, ne_eq, not_true_eq_false, not_false_eq_true, or_true, true_or, or_false, false_or, or_self, Int.tmod_eq_emod_of_nonneg, Int.tdiv_eq_ediv_of_nonneg, Classical.not_not, xSw, rOK, b2i_ok, b2i_0, b2i_1, Nat.reduceAdd, Nat.reduceSub, Nat.reduceMul, Nat.reduceEqDiff, Nat.reduceLeDiff, Nat.reduceLT, Int.reduceAdd, Int.reduceSub, Int.reduceMul, Int.reduceNeg, Int.reduceEq, Int.reduceNe, Int.reduceLT, Int.reduceLE, Int.reduceToNat, Int.reduceTDiv, Int.reduceTMod, b2i_em, g0, g2]
    refine c_nextToken hBS.1 (KK_KC hBS.2.1) hBS.2.2.1 h1 (fun M1 f1 a2 a3 a4 => ?_)
    have hM1 := LWs_59 ht hM f1 a2
    have hM1' := hM1
    obtain ⟨b0, b1, b2, b3, b4, b5⟩ := hM1
    have e4 : M1 61 4 = w := by
      obtain ⟨g, Lc, h0, hL, q3, q4, -⟩ := b3
      exact q4
    have k43 : ¬ k = 43 := by
      have := hok.2.1
      omega
    simp (disch := first | decide | omega) only [b49, w49_0, w49_1, w49_2, w49_5, w49_6, w49_9, w49_12, w49_13, w49_14, w49_17, w49_18, w49_19, w49_22, w49_23, w49_24, w49_27, w49_28, w49_31, w49_32, w49_35, w49_36, w49_38, w49_41, w49_44, w49_45, w49_48, w49_51, w49_52, w49_53, w49_55, w49_58, w49_59, w49_62, w49_63, w49_66, w49_67, w49_68, w49_69, w49_70, w49_71, w49_74, w49_77, w49_78, w49_81, w49_84, w49_85, w49_86, w49_89, w49_92, w49_95, w49_96, w49_97, w49_100, w49_103, w49_104, tc61, tr61_2, tr61_6, ta62, tn62, tc59, tr59_0, ta60, tn60, xLoad_i, xLoad_l, xLoad_r, xInc_s, xBr_t, xBr_f, xNz_s, xGf_s, xPf_s, xPz_s, xLd_2, xLd_7, xLd_10, xLdb_3, xLdb_5, xLdb_9, xLdl_4, xLdr_6, xSt_2, xStl_4, xStb_3, xStb_5, xLen_s, xLen_10, xCpy_s, xIv_s, xMx_s, mCont_s, mCont_n, w32_s, w64_s, upC_e, upC_n, upC_u, upC_c, mEn_c, mEn_n, mcw_i, mcw_l, mcw_r, mcat_n, mcat_i, mcat_l, mcat_r, xlong_i, xlong_l, xlong_r, xlong_n, s1_at, s2_at, ↓reduceIte, reduceCtorEq, and_self, true_and, and_true, false_and, and_false, Bool.false_eq_true, ne_eq, not_true_eq_false, not_false_eq_true, or_true, true_or, or_false, false_or, or_self, Int.tmod_eq_emod_of_nonneg, Int.tdiv_eq_ediv_of_nonneg, Classical.not_not, xSw, rOK, b2i_ok, b2i_0, b2i_1, Nat.reduceAdd, Nat.reduceSub, Nat.reduceMul, Nat.reduceEqDiff, Nat.reduceLeDiff, Nat.reduceLT, Int.reduceAdd, Int.reduceSub, Int.reduceMul, Int.reduceNeg, Int.reduceEq, Int.reduceNe, Int.reduceLT, Int.reduceLE, Int.reduceToNat, Int.reduceTDiv, Int.reduceTMod, b2i_em, g0, g2, e4, k43]
    refine c_faultLaw (d := d + 3) (v := v) (N := N) ht hw hk hd b3 (by omega) ⟨by rw [b1.1]; omega, by rw [b1.1]; omega⟩ (fun e => ⟨a4 e, (hok.2.2 e).1⟩) (fun F' L2 w1' aA' M' s e c => ?_) (fun L2 M' s e c l => ?_) (fun fa s => ?_)
    · obtain ⟨L', rfl, s'⟩ := LSt_P s
      have hM2 := LWs_st ht hM1' e c
      have e0 := hM2.1.2.2.2.2.1
      obtain ⟨k1, k2, k3⟩ := LSt_ok hk hd hwf (fun e => (hok.2.2 e).1) s'
      have hf2 := fT_t hf0 (fT_t (fT_59 f1) (fT_L ht e))
      have hlR := hRS _ _ _ _ s'
      have ih := fun lv' x y => c_rdL ht hw hDl hn hF hE T q F' L' w1' aA' (N + 1) (i + 1) M' lv' hlR h2 k1 k2 k3 hM2 hf2 (by omega) (by omega) (by omega) x y
      clear hF hE hRS hRE hRF
      simp (disch := first | decide | omega) only [b49, w49_0, w49_1, w49_2, w49_5, w49_6, w49_9, w49_12, w49_13, w49_14, w49_17, w49_18, w49_19, w49_22, w49_23, w49_24, w49_27, w49_28, w49_31, w49_32, w49_35, w49_36, w49_38, w49_41, w49_44, w49_45, w49_48, w49_51, w49_52, w49_53, w49_55, w49_58, w49_59, w49_62, w49_63, w49_66, w49_67, w49_68, w49_69, w49_70, w49_71, w49_74, w49_77, w49_78, w49_81, w49_84, w49_85, w49_86, w49_89, w49_92, w49_95, w49_96, w49_97, w49_100, w49_103, w49_104, tc61, tr61_2, tr61_6, ta62, tn62, tc59, tr59_0, ta60, tn60, xLoad_i, xLoad_l, xLoad_r, xInc_s, xBr_t, xBr_f, xNz_s, xGf_s, xPf_s, xPz_s, xLd_2, xLd_7, xLd_10, xLdb_3, xLdb_5, xLdb_9, xLdl_4, xLdr_6, xSt_2, xStl_4, xStb_3, xStb_5, xLen_s, xLen_10, xCpy_s, xIv_s, xMx_s, mCont_s, mCont_n, w32_s, w64_s, upC_e, upC_n, upC_u, upC_c, mEn_c, mEn_n, mcw_i, mcw_l, mcw_r, mcat_n, mcat_i, mcat_l, mcat_r, xlong_i, xlong_l, xlong_r, xlong_n, s1_at, s2_at, ↓reduceIte, reduceCtorEq, and_self, true_and, and_true, false_and, and_false, Bool.false_eq_true, ne_eq, not_true_eq_false, not_false_eq_true, or_true, true_or, or_false, false_or, or_self, Int.tmod_eq_emod_of_nonneg, Int.tdiv_eq_ediv_of_nonneg, Classical.not_not, xSw, rOK, b2i_ok, b2i_0, b2i_1, Nat.reduceAdd, Nat.reduceSub, Nat.reduceMul, Nat.reduceEqDiff, Nat.reduceLeDiff, Nat.reduceLT, Int.reduceAdd, Int.reduceSub, Int.reduceMul, Int.reduceNeg, Int.reduceEq, Int.reduceNe, Int.reduceLT, Int.reduceLE, Int.reduceToNat, Int.reduceTDiv, Int.reduceTMod, b2i_em, g0, g2, mU_e, mU_n]
      rw [up61 e0]
      refine ih _ ?_ ?_
      all_goals simp [s1_at, s2_at, mEn_c, mcw_r, mcw_i, mcw_l, xlong_i, xlong_r, xlong_l, xlong_n, g0, g2]
    · obtain ⟨L', rfl, s'⟩ := LEnd_P s
      have hwf' := LEnd_ok hk hwf s'
      have hL0 : L' ≠ [] := fun e => by
        rw [e] at hwf'
        cases hwf'
      have ho := hRE L' s'
      have hM2 := LWs_en (L2 := L') ht hw hn hL0 hM1' e c
      have e0 := hM2.1.2.2.2.2.1
      have hf2 := fT_t hf0 (fT_t (fT_59 f1) (fT_E ht e))
      have hr := hE (by rw [ho])
      rw [ho] at hr
      have ih := fun lv' x y => hr M' q (i + 1) lv' hf2 hM2 h2 (by show i + 1 + (T.length : Int) ≤ 300; omega) (by show ((P ++ L').length : Int) ≤ i + 1; omega) x y
      clear hF hE hRS hRE hRF hr
      simp (disch := first | decide | omega) only [b49, w49_0, w49_1, w49_2, w49_5, w49_6, w49_9, w49_12, w49_13, w49_14, w49_17, w49_18, w49_19, w49_22, w49_23, w49_24, w49_27, w49_28, w49_31, w49_32, w49_35, w49_36, w49_38, w49_41, w49_44, w49_45, w49_48, w49_51, w49_52, w49_53, w49_55, w49_58, w49_59, w49_62, w49_63, w49_66, w49_67, w49_68, w49_69, w49_70, w49_71, w49_74, w49_77, w49_78, w49_81, w49_84, w49_85, w49_86, w49_89, w49_92, w49_95, w49_96, w49_97, w49_100, w49_103, w49_104, tc61, tr61_2, tr61_6, ta62, tn62, tc59, tr59_0, ta60, tn60, xLoad_i, xLoad_l, xLoad_r, xInc_s, xBr_t, xBr_f, xNz_s, xGf_s, xPf_s, xPz_s, xLd_2, xLd_7, xLd_10, xLdb_3, xLdb_5, xLdb_9, xLdl_4, xLdr_6, xSt_2, xStl_4, xStb_3, xStb_5, xLen_s, xLen_10, xCpy_s, xIv_s, xMx_s, mCont_s, mCont_n, w32_s, w64_s, upC_e, upC_n, upC_u, upC_c, mEn_c, mEn_n, mcw_i, mcw_l, mcw_r, mcat_n, mcat_i, mcat_l, mcat_r, xlong_i, xlong_l, xlong_r, xlong_n, s1_at, s2_at, ↓reduceIte, reduceCtorEq, and_self, true_and, and_true, false_and, and_false, Bool.false_eq_true, ne_eq, not_true_eq_false, not_false_eq_true, or_true, true_or, or_false, false_or, or_self, Int.tmod_eq_emod_of_nonneg, Int.tdiv_eq_ediv_of_nonneg, Classical.not_not, xSw, rOK, b2i_ok, b2i_0, b2i_1, Nat.reduceAdd, Nat.reduceSub, Nat.reduceMul, Nat.reduceEqDiff, Nat.reduceLeDiff, Nat.reduceLT, Int.reduceAdd, Int.reduceSub, Int.reduceMul, Int.reduceNeg, Int.reduceEq, Int.reduceNe, Int.reduceLT, Int.reduceLE, Int.reduceToNat, Int.reduceTDiv, Int.reduceTMod, b2i_em, g0, g2, mU_e, mU_n]
      rw [up61 e0]
      refine ih _ ?_ ?_
      all_goals simp [s1_at, s2_at, mEn_c, mcw_r, mcw_i, mcw_l, xlong_i, xlong_r, xlong_l, xlong_n, g0, g2]
    · have ho := hRF fa s
      have hfa := LFt_n s
      have hr := hF (by rw [ho]; exact hfa.1)
      rw [ho] at hr
      clear hF hE hRS hRE hRF
      have n0 := hfa.1
      simp (disch := first | decide | omega) only [b49, w49_0, w49_1, w49_2, w49_5, w49_6, w49_9, w49_12, w49_13, w49_14, w49_17, w49_18, w49_19, w49_22, w49_23, w49_24, w49_27, w49_28, w49_31, w49_32, w49_35, w49_36, w49_38, w49_41, w49_44, w49_45, w49_48, w49_51, w49_52, w49_53, w49_55, w49_58, w49_59, w49_62, w49_63, w49_66, w49_67, w49_68, w49_69, w49_70, w49_71, w49_74, w49_77, w49_78, w49_81, w49_84, w49_85, w49_86, w49_89, w49_92, w49_95, w49_96, w49_97, w49_100, w49_103, w49_104, tc61, tr61_2, tr61_6, ta62, tn62, tc59, tr59_0, ta60, tn60, xLoad_i, xLoad_l, xLoad_r, xInc_s, xBr_t, xBr_f, xNz_s, xGf_s, xPf_s, xPz_s, xLd_2, xLd_7, xLd_10, xLdb_3, xLdb_5, xLdb_9, xLdl_4, xLdr_6, xSt_2, xStl_4, xStb_3, xStb_5, xLen_s, xLen_10, xCpy_s, xIv_s, xMx_s, mCont_s, mCont_n, w32_s, w64_s, upC_e, upC_n, upC_u, upC_c, mEn_c, mEn_n, mcw_i, mcw_l, mcw_r, mcat_n, mcat_i, mcat_l, mcat_r, xlong_i, xlong_l, xlong_r, xlong_n, s1_at, s2_at, ↓reduceIte, reduceCtorEq, and_self, true_and, and_true, false_and, and_false, Bool.false_eq_true, ne_eq, not_true_eq_false, not_false_eq_true, or_true, true_or, or_false, false_or, or_self, Int.tmod_eq_emod_of_nonneg, Int.tdiv_eq_ediv_of_nonneg, Classical.not_not, xSw, rOK, b2i_ok, b2i_0, b2i_1, Nat.reduceAdd, Nat.reduceSub, Nat.reduceMul, Nat.reduceEqDiff, Nat.reduceLeDiff, Nat.reduceLT, Int.reduceAdd, Int.reduceSub, Int.reduceMul, Int.reduceNeg, Int.reduceEq, Int.reduceNe, Int.reduceLT, Int.reduceLE, Int.reduceToNat, Int.reduceTDiv, Int.reduceTMod, b2i_em, g0, g2, mU_e, mU_n, n0, a3]
      exact hr _ (fT_t hf0 (fT_t (fT_59 f1) fT_61)) (by simp (disch := first | decide | omega) only [upC_e, upC_n, mU_e, mU_n]) (by simp (disch := first | decide | omega) only [upC_e, upC_n, mU_e, mU_n])
set_option maxHeartbeats 2000000 in
/-- another clause -/
theorem c_rdD {d t n : Nat} {f : Int → Int} {D : List CLZ} {P : List (Int × Int)} {w : Int} {K : mQ} {M0 : mM} {o : Int × Int × Int × Int × List TOK} (ht : t < 4) (hw : 4 ≤ w ∧ w ≤ 9) (hDl : D.length < 24) (hF : o.1 ≠ 0 → ∀ M', fT t M0 M' → M' 61 0 = o.1 → M' 61 1 = o.2.1 → K (some (vi 0)) M') (hE : o.1 = 0 → ∀ (M' : mM) (p' : Nat) (i' : Int) (lv' : mL), fT t M0 M' → IDs t n f p' (D ++ [(w, o.2.2.1, o.2.2.2.1, [])]) P M' → TKS f n o.2.2.2.2 p' → i' + o.2.2.2.2.length ≤ 300 → (P.length : Int) ≤ i' → lv' 0 = some (vr 61) → lv' 2 = some (vi i') → rn (d + 8) 49 K 37 lv' [] M') : ∀ (T : List TOK) (p pp : Nat) (x y : Int) (i : Int) (M : mM) (lv : mL), DR w n T pp x y o → TKS f n T p → pp ≤ 3 → (pp = 2 ∨ pp = 3 → dLk w ≠ 41) → PTs t n f p D P w pp x y M → fT t M0 M → 0 ≤ i → i + T.length ≤ 300 → (P.length : Int) ≤ i → lv 0 = some (vr 61) → lv 2 = some (vi i) → rn (d + 8) 49 K 37 lv [] M
  | [], p, pp, x, y, i, M, lv, hR, hT, hpp, hlk, hM, hf0, i0, hi, hPi, g0, g2 => by
    rw [List.length_nil] at hi
    obtain ⟨hp, hb⟩ := hT
    have hBS := hM.1
    rw [w49_37]
    simp (disch := first | decide | omega) only [b49, w49_0, w49_1, w49_2, w49_5, w49_6, w49_9, w49_12, w49_13, w49_14, w49_17, w49_18, w49_19, w49_22, w49_23, w49_24, w49_27, w49_28, w49_31, w49_32, w49_35, w49_36, w49_38, w49_41, w49_44, w49_45, w49_48, w49_51, w49_52, w49_53, w49_55, w49_58, w49_59, w49_62, w49_63, w49_66, w49_67, w49_68, w49_69, w49_70, w49_71, w49_74, w49_77, w49_78, w49_81, w49_84, w49_85, w49_86, w49_89, w49_92, w49_95, w49_96, w49_97, w49_100, w49_103, w49_104, tc61, tr61_2, tr61_6, ta62, tn62, tc59, tr59_0, ta60, tn60, xLoad_i, xLoad_l, xLoad_r, xInc_s, xBr_t, xBr_f, xNz_s, xGf_s, xPf_s, xPz_s, xLd_2, xLd_7, xLd_10, xLdb_3, xLdb_5, xLdb_9, xLdl_4, xLdr_6, xSt_2, xStl_4, xStb_3, xStb_5, xLen_s, xLen_10, xCpy_s, xIv_s, xMx_s, mCont_s, mCont_n, w32_s, w64_s, upC_e, upC_n, upC_u, upC_c, mEn_c, mEn_n, mcw_i, mcw_l, mcw_r, mcat_n, mcat_i, mcat_l, mcat_r, xlong_i, xlong_l, xlong_r, xlong_n, s1_at, s2_at, ↓reduceIte, reduceCtorEq, and_self, true_and, and_true, false_and, and_false, Bool.false_eq_true, ne_eq, not_true_eq_false, not_false_eq_true, or_true, true_or, or_false, false_or, or_self, Int.tmod_eq_emod_of_nonneg, Int.tdiv_eq_ediv_of_nonneg, Classical.not_not, xSw, rOK, b2i_ok, b2i_0, b2i_1, Nat.reduceAdd, Nat.reduceSub, Nat.reduceMul, Nat.reduceEqDiff, Nat.reduceLeDiff, Nat.reduceLT, Int.reduceAdd, Int.reduceSub, Int.reduceMul, Int.reduceNeg, Int.reduceEq, Int.reduceNe, Int.reduceLT, Int.reduceLE, Int.reduceToNat, Int.reduceTDiv, Int.reduceTMod, b2i_em, g0, g2]
    refine c_nextEnd hBS.1 hBS.2.2.1 hp hb (fun M1 f1 a2 a3 => ?_)
    have hM1 := PTs_59 ht hM f1 a2
    obtain ⟨b0, b1, b2, b3, b4, b5, b6, b7⟩ := hM1
    have w1' : ¬ w = -1 := by omega
    simp (disch := first | decide | omega) only [b49, w49_0, w49_1, w49_2, w49_5, w49_6, w49_9, w49_12, w49_13, w49_14, w49_17, w49_18, w49_19, w49_22, w49_23, w49_24, w49_27, w49_28, w49_31, w49_32, w49_35, w49_36, w49_38, w49_41, w49_44, w49_45, w49_48, w49_51, w49_52, w49_53, w49_55, w49_58, w49_59, w49_62, w49_63, w49_66, w49_67, w49_68, w49_69, w49_70, w49_71, w49_74, w49_77, w49_78, w49_81, w49_84, w49_85, w49_86, w49_89, w49_92, w49_95, w49_96, w49_97, w49_100, w49_103, w49_104, tc61, tr61_2, tr61_6, ta62, tn62, tc59, tr59_0, ta60, tn60, xLoad_i, xLoad_l, xLoad_r, xInc_s, xBr_t, xBr_f, xNz_s, xGf_s, xPf_s, xPz_s, xLd_2, xLd_7, xLd_10, xLdb_3, xLdb_5, xLdb_9, xLdl_4, xLdr_6, xSt_2, xStl_4, xStb_3, xStb_5, xLen_s, xLen_10, xCpy_s, xIv_s, xMx_s, mCont_s, mCont_n, w32_s, w64_s, upC_e, upC_n, upC_u, upC_c, mEn_c, mEn_n, mcw_i, mcw_l, mcw_r, mcat_n, mcat_i, mcat_l, mcat_r, xlong_i, xlong_l, xlong_r, xlong_n, s1_at, s2_at, ↓reduceIte, reduceCtorEq, and_self, true_and, and_true, false_and, and_false, Bool.false_eq_true, ne_eq, not_true_eq_false, not_false_eq_true, or_true, true_or, or_false, false_or, or_self, Int.tmod_eq_emod_of_nonneg, Int.tdiv_eq_ediv_of_nonneg, Classical.not_not, xSw, rOK, b2i_ok, b2i_0, b2i_1, Nat.reduceAdd, Nat.reduceSub, Nat.reduceMul, Nat.reduceEqDiff, Nat.reduceLeDiff, Nat.reduceLT, Int.reduceAdd, Int.reduceSub, Int.reduceMul, Int.reduceNeg, Int.reduceEq, Int.reduceNe, Int.reduceLT, Int.reduceLE, Int.reduceToNat, Int.reduceTDiv, Int.reduceTMod, b2i_em, g0, g2, b5, w1']
    refine c_faultPart (d := d + 4) (v := 0) (cn := D.length) (x := x) (y := y) (p := pp) ht hw b0.2.2.2.1 b5 b6 hpp (fun e => hlk (Or.inl e)) b1.1 ⟨by omega, by omega⟩ b7.2.1 b7.2.2 (fun e => by omega) (KK_KP b0.2.1) (fun x' y' M' s _ _ _ _ => ?_) (fun M' s _ => ?_) (fun fa s => ?_)
    · exfalso
      have := dLk_R w
      unfold DSt at s
      have : dLk w = 10 ∨ dLk w = 11 ∨ dLk w = 41 := by unfold dLk; repeat' split; all_goals omega
      omega
    · exfalso
      unfold DEnd at s
      omega
    · have ho := hR fa s
      have n0 := DFt_n s
      have hr := hF (by rw [ho]; exact n0)
      rw [ho] at hr
      clear hF hE hR
      simp (disch := first | decide | omega) only [b49, w49_0, w49_1, w49_2, w49_5, w49_6, w49_9, w49_12, w49_13, w49_14, w49_17, w49_18, w49_19, w49_22, w49_23, w49_24, w49_27, w49_28, w49_31, w49_32, w49_35, w49_36, w49_38, w49_41, w49_44, w49_45, w49_48, w49_51, w49_52, w49_53, w49_55, w49_58, w49_59, w49_62, w49_63, w49_66, w49_67, w49_68, w49_69, w49_70, w49_71, w49_74, w49_77, w49_78, w49_81, w49_84, w49_85, w49_86, w49_89, w49_92, w49_95, w49_96, w49_97, w49_100, w49_103, w49_104, tc61, tr61_2, tr61_6, ta62, tn62, tc59, tr59_0, ta60, tn60, xLoad_i, xLoad_l, xLoad_r, xInc_s, xBr_t, xBr_f, xNz_s, xGf_s, xPf_s, xPz_s, xLd_2, xLd_7, xLd_10, xLdb_3, xLdb_5, xLdb_9, xLdl_4, xLdr_6, xSt_2, xStl_4, xStb_3, xStb_5, xLen_s, xLen_10, xCpy_s, xIv_s, xMx_s, mCont_s, mCont_n, w32_s, w64_s, upC_e, upC_n, upC_u, upC_c, mEn_c, mEn_n, mcw_i, mcw_l, mcw_r, mcat_n, mcat_i, mcat_l, mcat_r, xlong_i, xlong_l, xlong_r, xlong_n, s1_at, s2_at, ↓reduceIte, reduceCtorEq, and_self, true_and, and_true, false_and, and_false, Bool.false_eq_true, ne_eq, not_true_eq_false, not_false_eq_true, or_true, true_or, or_false, false_or, or_self, Int.tmod_eq_emod_of_nonneg, Int.tdiv_eq_ediv_of_nonneg, Classical.not_not, xSw, rOK, b2i_ok, b2i_0, b2i_1, Nat.reduceAdd, Nat.reduceSub, Nat.reduceMul, Nat.reduceEqDiff, Nat.reduceLeDiff, Nat.reduceLT, Int.reduceAdd, Int.reduceSub, Int.reduceMul, Int.reduceNeg, Int.reduceEq, Int.reduceNe, Int.reduceLT, Int.reduceLE, Int.reduceToNat, Int.reduceTDiv, Int.reduceTMod, b2i_em, g0, g2, mU_e, mU_n, n0, a3]
      exact hr _ (fT_t hf0 (fT_t (fT_59 f1) fT_61)) (by simp (disch := first | decide | omega) only [upC_e, upC_n, mU_e, mU_n]) (by simp (disch := first | decide | omega) only [upC_e, upC_n, mU_e, mU_n])
  | tk :: T, p, pp, x, y, i, M, lv, hR, hT, hpp, hlk, hM, hf0, i0, hi, hPi, g0, g2 => by
    rw [List.length_cons] at hi
    obtain ⟨q, h1, h2⟩ := hT
    have hok := TK_ok h1
    obtain ⟨hRS, hRE, hRF⟩ := hR
    obtain ⟨k, v, a⟩ := tk
    have hBS := hM.1
    rw [w49_37]
    simp (disch := first | decide | omega) only [b49, w49_0, w49_1, w49_2, w49_5, w49_6, w49_9, w49_12, w49_13, w49_14, w49_17, w49_18, w49_19, w49_22, w49_23, w49_24, w49_27, w49_28, w49_31, w49_32, w49_35, w49_36, w49_38, w49_41, w49_44, w49_45, w49_48, w49_51, w49_52, w49_53, w49_55, w49_58, w49_59, w49_62, w49_63, w49_66, w49_67, w49_68, w49_69, w49_70, w49_71, w49_74, w49_77, w49_78, w49_81, w49_84, w49_85, w49_86, w49_89, w49_92, w49_95, w49_96, w49_97, w49_100, w49_103, w49_104, tc61, tr61_2, tr61_6, ta62, tn62, tc59, tr59_0, ta60, tn60, xLoad_i, xLoad_l, xLoad_r, xInc_s, xBr_t, xBr_f, xNz_s, xGf_s, xPf_s, xPz_s, xLd_2, xLd_7, xLd_10, xLdb_3, xLdb_5, xLdb_9, xLdl_4, xLdr_6, xSt_2, xStl_4, xStb_3, xStb_5, xLen_s, xLen_10, xCpy_s, xIv_s, xMx_s, mCont_s, mCont_n, w32_s, w64_s, upC_e, upC_n, upC_u, upC_c, mEn_c, mEn_n, mcw_i, mcw_l, mcw_r, mcat_n, mcat_i, mcat_l, mcat_r, xlong_i, xlong_l, xlong_r, xlong_n, s1_at, s2_at, ↓reduceIte, reduceCtorEq, and_self, true_and, and_true, false_and, and_false, Bool.false_eq_true, ne_eq, not_true_eq_false, not_false_eq_true, or_true, true_or, or_false, false_or, or_self, Int.tmod_eq_emod_of_nonneg, Int.tdiv_eq_ediv_of_nonneg, Classical.not_not, xSw, rOK, b2i_ok, b2i_0, b2i_1, Nat.reduceAdd, Nat.reduceSub, Nat.reduceMul, Nat.reduceEqDiff, Nat.reduceLeDiff, Nat.reduceLT, Int.reduceAdd, Int.reduceSub, Int.reduceMul, Int.reduceNeg, Int.reduceEq, Int.reduceNe, Int.reduceLT, Int.reduceLE, Int.reduceToNat, Int.reduceTDiv, Int.reduceTMod, b2i_em, g0, g2]
    refine c_nextToken hBS.1 (KK_KC hBS.2.1) hBS.2.2.1 h1 (fun M1 f1 a2 a3 a4 => ?_)
    have hM1 := PTs_59 ht hM f1 a2
    have hM1' := hM1
    obtain ⟨b0, b1, b2, b3, b4, b5, b6, b7⟩ := hM1
    have k43 : ¬ k = 43 := by
      have := hok.2.1
      omega
    simp (disch := first | decide | omega) only [b49, w49_0, w49_1, w49_2, w49_5, w49_6, w49_9, w49_12, w49_13, w49_14, w49_17, w49_18, w49_19, w49_22, w49_23, w49_24, w49_27, w49_28, w49_31, w49_32, w49_35, w49_36, w49_38, w49_41, w49_44, w49_45, w49_48, w49_51, w49_52, w49_53, w49_55, w49_58, w49_59, w49_62, w49_63, w49_66, w49_67, w49_68, w49_69, w49_70, w49_71, w49_74, w49_77, w49_78, w49_81, w49_84, w49_85, w49_86, w49_89, w49_92, w49_95, w49_96, w49_97, w49_100, w49_103, w49_104, tc61, tr61_2, tr61_6, ta62, tn62, tc59, tr59_0, ta60, tn60, xLoad_i, xLoad_l, xLoad_r, xInc_s, xBr_t, xBr_f, xNz_s, xGf_s, xPf_s, xPz_s, xLd_2, xLd_7, xLd_10, xLdb_3, xLdb_5, xLdb_9, xLdl_4, xLdr_6, xSt_2, xStl_4, xStb_3, xStb_5, xLen_s, xLen_10, xCpy_s, xIv_s, xMx_s, mCont_s, mCont_n, w32_s, w64_s, upC_e, upC_n, upC_u, upC_c, mEn_c, mEn_n, mcw_i, mcw_l, mcw_r, mcat_n, mcat_i, mcat_l, mcat_r, xlong_i, xlong_l, xlong_r, xlong_n, s1_at, s2_at, ↓reduceIte, reduceCtorEq, and_self, true_and, and_true, false_and, and_false, Bool.false_eq_true, ne_eq, not_true_eq_false, not_false_eq_true, or_true, true_or, or_false, false_or, or_self, Int.tmod_eq_emod_of_nonneg, Int.tdiv_eq_ediv_of_nonneg, Classical.not_not, xSw, rOK, b2i_ok, b2i_0, b2i_1, Nat.reduceAdd, Nat.reduceSub, Nat.reduceMul, Nat.reduceEqDiff, Nat.reduceLeDiff, Nat.reduceLT, Int.reduceAdd, Int.reduceSub, Int.reduceMul, Int.reduceNeg, Int.reduceEq, Int.reduceNe, Int.reduceLT, Int.reduceLE, Int.reduceToNat, Int.reduceTDiv, Int.reduceTMod, b2i_em, g0, g2, k43]
    refine c_faultPart (d := d + 4) (v := v) (cn := D.length) (x := x) (y := y) (p := pp) ht hw b0.2.2.2.1 b5 b6 hpp (fun e => hlk (Or.inl e)) b1.1 ⟨by omega, by omega⟩ b7.2.1 b7.2.2 a4 (KK_KP b0.2.1) (fun x' y' M' s e e5 ex ey => ?_) (fun M' s e => ?_) (fun fa s => ?_)
    · have hM2 := PTs_st ht hM1' e e5 ex ey
      have e0 := hM2.1.2.2.2.2.1
      have hf2 := fT_t hf0 (fT_t (fT_59 f1) (fT_P ht e))
      have hlR := hRS _ _ s
      have hp3 : pp < 3 := by unfold DSt at s; omega
      have hlk' : pp + 1 = 2 ∨ pp + 1 = 3 → dLk w ≠ 41 := fun g => by
        rcases g with g | g
        · have hp1 : pp = 1 := by omega
          unfold DSt at s
          intro e
          omega
        · exact hlk (Or.inl (by omega))
      have ih := fun lv' z1 z2 => c_rdD ht hw hDl hF hE T q (pp + 1) x' y' (i + 1) M' lv' hlR h2 (by omega) hlk' hM2 hf2 (by omega) (by omega) (by omega) z1 z2
      clear hF hE hRS hRE hRF
      simp (disch := first | decide | omega) only [b49, w49_0, w49_1, w49_2, w49_5, w49_6, w49_9, w49_12, w49_13, w49_14, w49_17, w49_18, w49_19, w49_22, w49_23, w49_24, w49_27, w49_28, w49_31, w49_32, w49_35, w49_36, w49_38, w49_41, w49_44, w49_45, w49_48, w49_51, w49_52, w49_53, w49_55, w49_58, w49_59, w49_62, w49_63, w49_66, w49_67, w49_68, w49_69, w49_70, w49_71, w49_74, w49_77, w49_78, w49_81, w49_84, w49_85, w49_86, w49_89, w49_92, w49_95, w49_96, w49_97, w49_100, w49_103, w49_104, tc61, tr61_2, tr61_6, ta62, tn62, tc59, tr59_0, ta60, tn60, xLoad_i, xLoad_l, xLoad_r, xInc_s, xBr_t, xBr_f, xNz_s, xGf_s, xPf_s, xPz_s, xLd_2, xLd_7, xLd_10, xLdb_3, xLdb_5, xLdb_9, xLdl_4, xLdr_6, xSt_2, xStl_4, xStb_3, xStb_5, xLen_s, xLen_10, xCpy_s, xIv_s, xMx_s, mCont_s, mCont_n, w32_s, w64_s, upC_e, upC_n, upC_u, upC_c, mEn_c, mEn_n, mcw_i, mcw_l, mcw_r, mcat_n, mcat_i, mcat_l, mcat_r, xlong_i, xlong_l, xlong_r, xlong_n, s1_at, s2_at, ↓reduceIte, reduceCtorEq, and_self, true_and, and_true, false_and, and_false, Bool.false_eq_true, ne_eq, not_true_eq_false, not_false_eq_true, or_true, true_or, or_false, false_or, or_self, Int.tmod_eq_emod_of_nonneg, Int.tdiv_eq_ediv_of_nonneg, Classical.not_not, xSw, rOK, b2i_ok, b2i_0, b2i_1, Nat.reduceAdd, Nat.reduceSub, Nat.reduceMul, Nat.reduceEqDiff, Nat.reduceLeDiff, Nat.reduceLT, Int.reduceAdd, Int.reduceSub, Int.reduceMul, Int.reduceNeg, Int.reduceEq, Int.reduceNe, Int.reduceLT, Int.reduceLE, Int.reduceToNat, Int.reduceTDiv, Int.reduceTMod, b2i_em, g0, g2, mU_e, mU_n]
      rw [up61 e0]
      refine ih _ ?_ ?_
      all_goals simp [s1_at, s2_at, mEn_c, mcw_r, mcw_i, mcw_l, xlong_i, xlong_r, xlong_l, xlong_n, g0, g2]
    · have ho := hRE s
      have hM2 := PTs_en ht hw.1 hM1' e
      have e0 := hM2.1.2.2.2.2.1
      have hf2 := fT_t hf0 (fT_t (fT_59 f1) (fT_e ht e))
      have hr := hE (by rw [ho])
      rw [ho] at hr
      have ih := fun lv' z1 z2 => hr M' q (i + 1) lv' hf2 hM2 h2 (by show i + 1 + (T.length : Int) ≤ 300; omega) (by omega) z1 z2
      clear hF hE hRS hRE hRF hr
      simp (disch := first | decide | omega) only [b49, w49_0, w49_1, w49_2, w49_5, w49_6, w49_9, w49_12, w49_13, w49_14, w49_17, w49_18, w49_19, w49_22, w49_23, w49_24, w49_27, w49_28, w49_31, w49_32, w49_35, w49_36, w49_38, w49_41, w49_44, w49_45, w49_48, w49_51, w49_52, w49_53, w49_55, w49_58, w49_59, w49_62, w49_63, w49_66, w49_67, w49_68, w49_69, w49_70, w49_71, w49_74, w49_77, w49_78, w49_81, w49_84, w49_85, w49_86, w49_89, w49_92, w49_95, w49_96, w49_97, w49_100, w49_103, w49_104, tc61, tr61_2, tr61_6, ta62, tn62, tc59, tr59_0, ta60, tn60, xLoad_i, xLoad_l, xLoad_r, xInc_s, xBr_t, xBr_f, xNz_s, xGf_s, xPf_s, xPz_s, xLd_2, xLd_7, xLd_10, xLdb_3, xLdb_5, xLdb_9, xLdl_4, xLdr_6, xSt_2, xStl_4, xStb_3, xStb_5, xLen_s, xLen_10, xCpy_s, xIv_s, xMx_s, mCont_s, mCont_n, w32_s, w64_s, upC_e, upC_n, upC_u, upC_c, mEn_c, mEn_n, mcw_i, mcw_l, mcw_r, mcat_n, mcat_i, mcat_l, mcat_r, xlong_i, xlong_l, xlong_r, xlong_n, s1_at, s2_at, ↓reduceIte, reduceCtorEq, and_self, true_and, and_true, false_and, and_false, Bool.false_eq_true, ne_eq, not_true_eq_false, not_false_eq_true, or_true, true_or, or_false, false_or, or_self, Int.tmod_eq_emod_of_nonneg, Int.tdiv_eq_ediv_of_nonneg, Classical.not_not, xSw, rOK, b2i_ok, b2i_0, b2i_1, Nat.reduceAdd, Nat.reduceSub, Nat.reduceMul, Nat.reduceEqDiff, Nat.reduceLeDiff, Nat.reduceLT, Int.reduceAdd, Int.reduceSub, Int.reduceMul, Int.reduceNeg, Int.reduceEq, Int.reduceNe, Int.reduceLT, Int.reduceLE, Int.reduceToNat, Int.reduceTDiv, Int.reduceTMod, b2i_em, g0, g2, mU_e, mU_n]
      rw [up61 e0]
      refine ih _ ?_ ?_
      all_goals simp [s1_at, s2_at, mEn_c, mcw_r, mcw_i, mcw_l, xlong_i, xlong_r, xlong_l, xlong_n, g0, g2]
    · have ho := hRF fa s
      have n0 := DFt_n s
      have hr := hF (by rw [ho]; exact n0)
      rw [ho] at hr
      clear hF hE hRS hRE hRF
      simp (disch := first | decide | omega) only [b49, w49_0, w49_1, w49_2, w49_5, w49_6, w49_9, w49_12, w49_13, w49_14, w49_17, w49_18, w49_19, w49_22, w49_23, w49_24, w49_27, w49_28, w49_31, w49_32, w49_35, w49_36, w49_38, w49_41, w49_44, w49_45, w49_48, w49_51, w49_52, w49_53, w49_55, w49_58, w49_59, w49_62, w49_63, w49_66, w49_67, w49_68, w49_69, w49_70, w49_71, w49_74, w49_77, w49_78, w49_81, w49_84, w49_85, w49_86, w49_89, w49_92, w49_95, w49_96, w49_97, w49_100, w49_103, w49_104, tc61, tr61_2, tr61_6, ta62, tn62, tc59, tr59_0, ta60, tn60, xLoad_i, xLoad_l, xLoad_r, xInc_s, xBr_t, xBr_f, xNz_s, xGf_s, xPf_s, xPz_s, xLd_2, xLd_7, xLd_10, xLdb_3, xLdb_5, xLdb_9, xLdl_4, xLdr_6, xSt_2, xStl_4, xStb_3, xStb_5, xLen_s, xLen_10, xCpy_s, xIv_s, xMx_s, mCont_s, mCont_n, w32_s, w64_s, upC_e, upC_n, upC_u, upC_c, mEn_c, mEn_n, mcw_i, mcw_l, mcw_r, mcat_n, mcat_i, mcat_l, mcat_r, xlong_i, xlong_l, xlong_r, xlong_n, s1_at, s2_at, ↓reduceIte, reduceCtorEq, and_self, true_and, and_true, false_and, and_false, Bool.false_eq_true, ne_eq, not_true_eq_false, not_false_eq_true, or_true, true_or, or_false, false_or, or_self, Int.tmod_eq_emod_of_nonneg, Int.tdiv_eq_ediv_of_nonneg, Classical.not_not, xSw, rOK, b2i_ok, b2i_0, b2i_1, Nat.reduceAdd, Nat.reduceSub, Nat.reduceMul, Nat.reduceEqDiff, Nat.reduceLeDiff, Nat.reduceLT, Int.reduceAdd, Int.reduceSub, Int.reduceMul, Int.reduceNeg, Int.reduceEq, Int.reduceNe, Int.reduceLT, Int.reduceLE, Int.reduceToNat, Int.reduceTDiv, Int.reduceTMod, b2i_em, g0, g2, mU_e, mU_n, n0, a3]
      exact hr _ (fT_t hf0 (fT_t (fT_59 f1) fT_61)) (by simp (disch := first | decide | omega) only [upC_e, upC_n, mU_e, mU_n]) (by simp (disch := first | decide | omega) only [upC_e, upC_n, mU_e, mU_n])
theorem hasW_to {t : Nat} {M : mM} {D : List CLZ} {P : List (Int × Int)} {w : Int} (h : CDw t M D P) (hw : 0 ≤ w ∧ w ≤ 3) : 0 < M (27 + 8 * t + 6) w ↔ hasW w D := by
  rcases h w hw.1 hw.2 with ⟨a, b⟩ | ⟨i, c, pre, suf, a, b, h3, h4, h5, h6⟩
  · exact ⟨fun e => by omega, fun e => absurd e a⟩
  · have hl : 0 < c.2.2.2.length := List.length_pos_iff.mpr h6
    exact ⟨fun _ => ⟨c, List.mem_of_getElem? a, b⟩, fun _ => by omega⟩
set_option maxHeartbeats 2000000 in
/-- all clauses -/
theorem c_rdA {d t n : Nat} {f : Int → Int} {K : mQ} {M0 : mM} {R : Int × Int × List CLZ} (ht : t < 4) (hF : R.1 ≠ 0 → ∀ M', fT t M0 M' → M' 61 0 = R.1 → M' 61 1 = R.2.1 → K (some (vi 0)) M') (hE : R.1 = 0 → ∀ (M' : mM) (P : List (Int × Int)), fT t M0 M' → IDs t n f n R.2.2 P M' → P.length ≤ 300 → K (some (vi 1)) M') : ∀ (m : Nat) (T : List TOK) (p : Nat) (D : List CLZ) (P : List (Int × Int)) (i : Int) (M : mM) (lv : mL), PR n m T D R → TKS f n T p → D.length ≤ 24 → IDs t n f p D P M → fT t M0 M → 0 ≤ i → i + T.length ≤ 300 → (P.length : Int) ≤ i → lv 0 = some (vr 61) → lv 2 = some (vi i) → rn (d + 8) 49 K 37 lv [] M
  | 0, T, p, D, P, i, M, lv, hR, hT, hDl, hM, hf0, i0, hi, hPi, g0, g2 => hR.elim
  | m + 1, [], p, D, P, i, M, lv, hR, hT, hDl, hM, hf0, i0, hi, hPi, g0, g2 => by
    rw [List.length_nil] at hi
    obtain ⟨hp, hb⟩ := hT
    have hBS := hM.1
    replace hR : R = (0, -1, D) := hR
    have hr := hE (by rw [hR])
    rw [hR] at hr
    clear hE hF
    rw [w49_37]
    simp (disch := first | decide | omega) only [b49, w49_0, w49_1, w49_2, w49_5, w49_6, w49_9, w49_12, w49_13, w49_14, w49_17, w49_18, w49_19, w49_22, w49_23, w49_24, w49_27, w49_28, w49_31, w49_32, w49_35, w49_36, w49_38, w49_41, w49_44, w49_45, w49_48, w49_51, w49_52, w49_53, w49_55, w49_58, w49_59, w49_62, w49_63, w49_66, w49_67, w49_68, w49_69, w49_70, w49_71, w49_74, w49_77, w49_78, w49_81, w49_84, w49_85, w49_86, w49_89, w49_92, w49_95, w49_96, w49_97, w49_100, w49_103, w49_104, tc61, tr61_2, tr61_6, ta62, tn62, tc59, tr59_0, ta60, tn60, xLoad_i, xLoad_l, xLoad_r, xInc_s, xBr_t, xBr_f, xNz_s, xGf_s, xPf_s, xPz_s, xLd_2, xLd_7, xLd_10, xLdb_3, xLdb_5, xLdb_9, xLdl_4, xLdr_6, xSt_2, xStl_4, xStb_3, xStb_5, xLen_s, xLen_10, xCpy_s, xIv_s, xMx_s, mCont_s, mCont_n, w32_s, w64_s, upC_e, upC_n, upC_u, upC_c, mEn_c, mEn_n, mcw_i, mcw_l, mcw_r, mcat_n, mcat_i, mcat_l, mcat_r, xlong_i, xlong_l, xlong_r, xlong_n, s1_at, s2_at, ↓reduceIte, reduceCtorEq, and_self, true_and, and_true, false_and, and_false, Bool.false_eq_true, ne_eq, not_true_eq_false, not_false_eq_true, or_true, true_or, or_false, false_or, or_self, Int.tmod_eq_emod_of_nonneg, Int.tdiv_eq_ediv_of_nonneg, Classical.not_not, xSw, rOK, b2i_ok, b2i_0, b2i_1, Nat.reduceAdd, Nat.reduceSub, Nat.reduceMul, Nat.reduceEqDiff, Nat.reduceLeDiff, Nat.reduceLT, Int.reduceAdd, Int.reduceSub, Int.reduceMul, Int.reduceNeg, Int.reduceEq, Int.reduceNe, Int.reduceLT, Int.reduceLE, Int.reduceToNat, Int.reduceTDiv, Int.reduceTMod, b2i_em, g0, g2]
    refine c_nextEnd hBS.1 hBS.2.2.1 hp hb (fun M1 f1 a2 a3 => ?_)
    have hM1 := IDs_59 ht hM f1 a2
    have e4 := hM1.2.1
    have hr2 := hr M1 P (fT_t hf0 (fT_59 f1)) hM1 (by omega)
    clear hr
    simp (disch := first | decide | omega) only [b49, w49_0, w49_1, w49_2, w49_5, w49_6, w49_9, w49_12, w49_13, w49_14, w49_17, w49_18, w49_19, w49_22, w49_23, w49_24, w49_27, w49_28, w49_31, w49_32, w49_35, w49_36, w49_38, w49_41, w49_44, w49_45, w49_48, w49_51, w49_52, w49_53, w49_55, w49_58, w49_59, w49_62, w49_63, w49_66, w49_67, w49_68, w49_69, w49_70, w49_71, w49_74, w49_77, w49_78, w49_81, w49_84, w49_85, w49_86, w49_89, w49_92, w49_95, w49_96, w49_97, w49_100, w49_103, w49_104, tc61, tr61_2, tr61_6, ta62, tn62, tc59, tr59_0, ta60, tn60, xLoad_i, xLoad_l, xLoad_r, xInc_s, xBr_t, xBr_f, xNz_s, xGf_s, xPf_s, xPz_s, xLd_2, xLd_7, xLd_10, xLdb_3, xLdb_5, xLdb_9, xLdl_4, xLdr_6, xSt_2, xStl_4, xStb_3, xStb_5, xLen_s, xLen_10, xCpy_s, xIv_s, xMx_s, mCont_s, mCont_n, w32_s, w64_s, upC_e, upC_n, upC_u, upC_c, mEn_c, mEn_n, mcw_i, mcw_l, mcw_r, mcat_n, mcat_i, mcat_l, mcat_r, xlong_i, xlong_l, xlong_r, xlong_n, s1_at, s2_at, ↓reduceIte, reduceCtorEq, and_self, true_and, and_true, false_and, and_false, Bool.false_eq_true, ne_eq, not_true_eq_false, not_false_eq_true, or_true, true_or, or_false, false_or, or_self, Int.tmod_eq_emod_of_nonneg, Int.tdiv_eq_ediv_of_nonneg, Classical.not_not, xSw, rOK, b2i_ok, b2i_0, b2i_1, Nat.reduceAdd, Nat.reduceSub, Nat.reduceMul, Nat.reduceEqDiff, Nat.reduceLeDiff, Nat.reduceLT, Int.reduceAdd, Int.reduceSub, Int.reduceMul, Int.reduceNeg, Int.reduceEq, Int.reduceNe, Int.reduceLT, Int.reduceLE, Int.reduceToNat, Int.reduceTDiv, Int.reduceTMod, b2i_em, g0, g2, e4]
    exact hr2
  | m + 1, tk :: T, p, D, P, i, M, lv, hR, hT, hDl, hM, hf0, i0, hi, hPi, g0, g2 => by
    rw [List.length_cons] at hi
    obtain ⟨q, h1, h2⟩ := hT
    have hok := TK_ok h1
    obtain ⟨k, v, a⟩ := tk
    replace hR : (9 < k ∧ R = (1, (a : Int), [])) ∨ (k ≤ 3 ∧ hasW k D ∧ R = (4, (a : Int), [])) ∨ (k ≤ 9 ∧ (k ≤ 3 → ¬ hasW k D) ∧ 24 ≤ D.length ∧ R = (6, (a : Int), [])) ∨ (k ≤ 3 ∧ ¬ hasW k D ∧ D.length < 24 ∧ ∃ o, LR k n T [(1, [])] [] true (decide (k = 1)) o ∧ ((o.1 ≠ 0 ∧ R = (o.1, o.2.1, [])) ∨ (o.1 = 0 ∧ PR n m o.2.2.2 (D ++ [(k, 0, 0, o.2.2.1)]) R))) ∨ (4 ≤ k ∧ k ≤ 9 ∧ D.length < 24 ∧ ∃ o, DR k n T 0 0 0 o ∧ ((o.1 ≠ 0 ∧ R = (o.1, o.2.1, [])) ∨ (o.1 = 0 ∧ PR n m o.2.2.2.2 (D ++ [(k, o.2.2.1, o.2.2.2.1, [])]) R))) := hR
    have hBS := hM.1
    have k0 : 0 ≤ k := hok.1
    have k43 : ¬ k = 43 := by
      have := hok.2.1
      omega
    have hFa : ∀ fa : Int, fa ≠ 0 → R = (fa, (a : Int), []) → ∀ M', fT t M0 M' → M' 61 0 = fa → M' 61 1 = a → K (some (vi 0)) M' := fun fa n0 e M' f x y => hF (by rw [e]; exact n0) M' f (by rw [e]; exact x) (by rw [e]; exact y)
    rw [w49_37]
    simp (disch := first | decide | omega) only [b49, w49_0, w49_1, w49_2, w49_5, w49_6, w49_9, w49_12, w49_13, w49_14, w49_17, w49_18, w49_19, w49_22, w49_23, w49_24, w49_27, w49_28, w49_31, w49_32, w49_35, w49_36, w49_38, w49_41, w49_44, w49_45, w49_48, w49_51, w49_52, w49_53, w49_55, w49_58, w49_59, w49_62, w49_63, w49_66, w49_67, w49_68, w49_69, w49_70, w49_71, w49_74, w49_77, w49_78, w49_81, w49_84, w49_85, w49_86, w49_89, w49_92, w49_95, w49_96, w49_97, w49_100, w49_103, w49_104, tc61, tr61_2, tr61_6, ta62, tn62, tc59, tr59_0, ta60, tn60, xLoad_i, xLoad_l, xLoad_r, xInc_s, xBr_t, xBr_f, xNz_s, xGf_s, xPf_s, xPz_s, xLd_2, xLd_7, xLd_10, xLdb_3, xLdb_5, xLdb_9, xLdl_4, xLdr_6, xSt_2, xStl_4, xStb_3, xStb_5, xLen_s, xLen_10, xCpy_s, xIv_s, xMx_s, mCont_s, mCont_n, w32_s, w64_s, upC_e, upC_n, upC_u, upC_c, mEn_c, mEn_n, mcw_i, mcw_l, mcw_r, mcat_n, mcat_i, mcat_l, mcat_r, xlong_i, xlong_l, xlong_r, xlong_n, s1_at, s2_at, ↓reduceIte, reduceCtorEq, and_self, true_and, and_true, false_and, and_false, Bool.false_eq_true, ne_eq, not_true_eq_false, not_false_eq_true, or_true, true_or, or_false, false_or, or_self, Int.tmod_eq_emod_of_nonneg, Int.tdiv_eq_ediv_of_nonneg, Classical.not_not, xSw, rOK, b2i_ok, b2i_0, b2i_1, Nat.reduceAdd, Nat.reduceSub, Nat.reduceMul, Nat.reduceEqDiff, Nat.reduceLeDiff, Nat.reduceLT, Int.reduceAdd, Int.reduceSub, Int.reduceMul, Int.reduceNeg, Int.reduceEq, Int.reduceNe, Int.reduceLT, Int.reduceLE, Int.reduceToNat, Int.reduceTDiv, Int.reduceTMod, b2i_em, g0, g2]
    refine c_nextToken hBS.1 (KK_KC hBS.2.1) hBS.2.2.1 h1 (fun M1 f1 a2 a3 a4 => ?_)
    have hM1 := IDs_59 ht hM f1 a2
    have hM1' := hM1
    obtain ⟨b0, b4, b1, b2, b5, b6⟩ := hM1
    have hto := fun (k3 : k ≤ 3) => hasW_to b2 ⟨k0, k3⟩
    simp (disch := first | decide | omega) only [b49, w49_0, w49_1, w49_2, w49_5, w49_6, w49_9, w49_12, w49_13, w49_14, w49_17, w49_18, w49_19, w49_22, w49_23, w49_24, w49_27, w49_28, w49_31, w49_32, w49_35, w49_36, w49_38, w49_41, w49_44, w49_45, w49_48, w49_51, w49_52, w49_53, w49_55, w49_58, w49_59, w49_62, w49_63, w49_66, w49_67, w49_68, w49_69, w49_70, w49_71, w49_74, w49_77, w49_78, w49_81, w49_84, w49_85, w49_86, w49_89, w49_92, w49_95, w49_96, w49_97, w49_100, w49_103, w49_104, tc61, tr61_2, tr61_6, ta62, tn62, tc59, tr59_0, ta60, tn60, xLoad_i, xLoad_l, xLoad_r, xInc_s, xBr_t, xBr_f, xNz_s, xGf_s, xPf_s, xPz_s, xLd_2, xLd_7, xLd_10, xLdb_3, xLdb_5, xLdb_9, xLdl_4, xLdr_6, xSt_2, xStl_4, xStb_3, xStb_5, xLen_s, xLen_10, xCpy_s, xIv_s, xMx_s, mCont_s, mCont_n, w32_s, w64_s, upC_e, upC_n, upC_u, upC_c, mEn_c, mEn_n, mcw_i, mcw_l, mcw_r, mcat_n, mcat_i, mcat_l, mcat_r, xlong_i, xlong_l, xlong_r, xlong_n, s1_at, s2_at, ↓reduceIte, reduceCtorEq, and_self, true_and, and_true, false_and, and_false, Bool.false_eq_true, ne_eq, not_true_eq_false, not_false_eq_true, or_true, true_or, or_false, false_or, or_self, Int.tmod_eq_emod_of_nonneg, Int.tdiv_eq_ediv_of_nonneg, Classical.not_not, xSw, rOK, b2i_ok, b2i_0, b2i_1, Nat.reduceAdd, Nat.reduceSub, Nat.reduceMul, Nat.reduceEqDiff, Nat.reduceLeDiff, Nat.reduceLT, Int.reduceAdd, Int.reduceSub, Int.reduceMul, Int.reduceNeg, Int.reduceEq, Int.reduceNe, Int.reduceLT, Int.reduceLE, Int.reduceToNat, Int.reduceTDiv, Int.reduceTMod, b2i_em, g0, g2, k43]
    refine c_faultIdle (d := d + 4) (cn := D.length) (s := P.length) ht b0.2.2.2.1 b4 b1.1 ⟨by omega, by omega⟩ b5 k0 rfl (fun fa s => ?_) (fun M' k3 n0 c24 e eL => ?_) (fun M' k4 k9 c24 e => ?_)
    · have ho : fa ≠ 0 ∧ R = (fa, (a : Int), []) := by
        rcases s with ⟨s1, rfl⟩ | ⟨s1, s2, rfl⟩ | ⟨s1, s2, s3, rfl⟩
        · rcases hR with ⟨-, g⟩ | ⟨g, -⟩ | ⟨g, -⟩ | ⟨g, -⟩ | ⟨-, g, -⟩
          · exact ⟨by decide, g⟩
          · omega
          · omega
          · omega
          · omega
        · have s2' := (hto s1).mp s2
          rcases hR with ⟨g, -⟩ | ⟨-, -, g⟩ | ⟨-, g, -⟩ | ⟨-, g, -⟩ | ⟨g, -⟩
          · omega
          · exact ⟨by decide, g⟩
          · exact absurd s2' (g s1)
          · exact absurd s2' g
          · omega
        · rcases hR with ⟨g, -⟩ | ⟨g1, g2, -⟩ | ⟨-, -, -, g⟩ | ⟨-, -, g, -⟩ | ⟨-, -, g, -⟩
          · omega
          · exact absurd ((hto g1).mpr g2) (s2 g1)
          · exact ⟨by decide, g⟩
          · omega
          · omega
      obtain ⟨n0, ho⟩ := ho
      have hr := hFa fa n0 ho
      clear hF hE hFa hR
      simp (disch := first | decide | omega) only [b49, w49_0, w49_1, w49_2, w49_5, w49_6, w49_9, w49_12, w49_13, w49_14, w49_17, w49_18, w49_19, w49_22, w49_23, w49_24, w49_27, w49_28, w49_31, w49_32, w49_35, w49_36, w49_38, w49_41, w49_44, w49_45, w49_48, w49_51, w49_52, w49_53, w49_55, w49_58, w49_59, w49_62, w49_63, w49_66, w49_67, w49_68, w49_69, w49_70, w49_71, w49_74, w49_77, w49_78, w49_81, w49_84, w49_85, w49_86, w49_89, w49_92, w49_95, w49_96, w49_97, w49_100, w49_103, w49_104, tc61, tr61_2, tr61_6, ta62, tn62, tc59, tr59_0, ta60, tn60, xLoad_i, xLoad_l, xLoad_r, xInc_s, xBr_t, xBr_f, xNz_s, xGf_s, xPf_s, xPz_s, xLd_2, xLd_7, xLd_10, xLdb_3, xLdb_5, xLdb_9, xLdl_4, xLdr_6, xSt_2, xStl_4, xStb_3, xStb_5, xLen_s, xLen_10, xCpy_s, xIv_s, xMx_s, mCont_s, mCont_n, w32_s, w64_s, upC_e, upC_n, upC_u, upC_c, mEn_c, mEn_n, mcw_i, mcw_l, mcw_r, mcat_n, mcat_i, mcat_l, mcat_r, xlong_i, xlong_l, xlong_r, xlong_n, s1_at, s2_at, ↓reduceIte, reduceCtorEq, and_self, true_and, and_true, false_and, and_false, Bool.false_eq_true, ne_eq, not_true_eq_false, not_false_eq_true, or_true, true_or, or_false, false_or, or_self, Int.tmod_eq_emod_of_nonneg, Int.tdiv_eq_ediv_of_nonneg, Classical.not_not, xSw, rOK, b2i_ok, b2i_0, b2i_1, Nat.reduceAdd, Nat.reduceSub, Nat.reduceMul, Nat.reduceEqDiff, Nat.reduceLeDiff, Nat.reduceLT, Int.reduceAdd, Int.reduceSub, Int.reduceMul, Int.reduceNeg, Int.reduceEq, Int.reduceNe, Int.reduceLT, Int.reduceLE, Int.reduceToNat, Int.reduceTDiv, Int.reduceTMod, b2i_em, g0, g2, mU_e, mU_n, n0, a3]
      exact hr _ (fT_t hf0 (fT_t (fT_59 f1) fT_61)) (by simp (disch := first | decide | omega) only [upC_e, upC_n, mU_e, mU_n]) (by simp (disch := first | decide | omega) only [upC_e, upC_n, mU_e, mU_n])
    · have hn : ¬ hasW k D := fun g => n0 ((hto k3).mpr g)
      obtain ⟨o, hLR, ho⟩ : ∃ o, LR k n T [(1, [])] [] true (decide (k = 1)) o ∧ ((o.1 ≠ 0 ∧ R = (o.1, o.2.1, [])) ∨ (o.1 = 0 ∧ PR n m o.2.2.2 (D ++ [(k, 0, 0, o.2.2.1)]) R)) := by
        rcases hR with ⟨g, -⟩ | ⟨-, g, -⟩ | ⟨-, -, g, -⟩ | ⟨-, -, -, g⟩ | ⟨g, -⟩
        · omega
        · exact absurd g hn
        · omega
        · exact g
        · omega
      have hM2 := IDs_law ht hn hM1' e eL
      have e0 := hM2.1.2.2.2.2.1
      have hf2 := fT_t hf0 (fT_t (fT_59 f1) (fT_B ht e))
      have ih := fun lv' x y => c_rdL (d := d) (t := t) (n := n) (f := f) (D := D) (P := P) (K := K) (M0 := M0) (o := o) ht ⟨k0, k3⟩ (by omega) hn (fun hne M' f x y => by
        rcases ho with ⟨-, g⟩ | ⟨g, -⟩
        · exact hF (by rw [g]; exact hne) M' f (by rw [g]; exact x) (by rw [g]; exact y)
        · exact absurd g hne) (fun he M' p' i' lv' f hI hT' hi' hP' x y => by
        rcases ho with ⟨g, -⟩ | ⟨-, g⟩
        · exact absurd he g
        · exact c_rdA ht hF hE m o.2.2.2 p' _ _ i' M' lv' g hT' (by rw [List.length_append, List.length_singleton]; omega) hI f (by omega) hi' hP' x y) T q [(1, [])] [] true (decide (k = 1)) P.length (i + 1) M' lv' hLR h2 (ok0 (w := k)).1 (ok0 (w := k)).2.1 (ok0 (w := k)).2.2 hM2 hf2 (by omega) (by omega) (by omega) x y
      clear hF hE hFa hR
      simp (disch := first | decide | omega) only [b49, w49_0, w49_1, w49_2, w49_5, w49_6, w49_9, w49_12, w49_13, w49_14, w49_17, w49_18, w49_19, w49_22, w49_23, w49_24, w49_27, w49_28, w49_31, w49_32, w49_35, w49_36, w49_38, w49_41, w49_44, w49_45, w49_48, w49_51, w49_52, w49_53, w49_55, w49_58, w49_59, w49_62, w49_63, w49_66, w49_67, w49_68, w49_69, w49_70, w49_71, w49_74, w49_77, w49_78, w49_81, w49_84, w49_85, w49_86, w49_89, w49_92, w49_95, w49_96, w49_97, w49_100, w49_103, w49_104, tc61, tr61_2, tr61_6, ta62, tn62, tc59, tr59_0, ta60, tn60, xLoad_i, xLoad_l, xLoad_r, xInc_s, xBr_t, xBr_f, xNz_s, xGf_s, xPf_s, xPz_s, xLd_2, xLd_7, xLd_10, xLdb_3, xLdb_5, xLdb_9, xLdl_4, xLdr_6, xSt_2, xStl_4, xStb_3, xStb_5, xLen_s, xLen_10, xCpy_s, xIv_s, xMx_s, mCont_s, mCont_n, w32_s, w64_s, upC_e, upC_n, upC_u, upC_c, mEn_c, mEn_n, mcw_i, mcw_l, mcw_r, mcat_n, mcat_i, mcat_l, mcat_r, xlong_i, xlong_l, xlong_r, xlong_n, s1_at, s2_at, ↓reduceIte, reduceCtorEq, and_self, true_and, and_true, false_and, and_false, Bool.false_eq_true, ne_eq, not_true_eq_false, not_false_eq_true, or_true, true_or, or_false, false_or, or_self, Int.tmod_eq_emod_of_nonneg, Int.tdiv_eq_ediv_of_nonneg, Classical.not_not, xSw, rOK, b2i_ok, b2i_0, b2i_1, Nat.reduceAdd, Nat.reduceSub, Nat.reduceMul, Nat.reduceEqDiff, Nat.reduceLeDiff, Nat.reduceLT, Int.reduceAdd, Int.reduceSub, Int.reduceMul, Int.reduceNeg, Int.reduceEq, Int.reduceNe, Int.reduceLT, Int.reduceLE, Int.reduceToNat, Int.reduceTDiv, Int.reduceTMod, b2i_em, g0, g2, mU_e, mU_n]
      rw [up61 e0]
      refine ih _ ?_ ?_
      all_goals simp [s1_at, s2_at, mEn_c, mcw_r, mcw_i, mcw_l, xlong_i, xlong_r, xlong_l, xlong_n, g0, g2]
    · obtain ⟨o, hLR, ho⟩ : ∃ o, DR k n T 0 0 0 o ∧ ((o.1 ≠ 0 ∧ R = (o.1, o.2.1, [])) ∨ (o.1 = 0 ∧ PR n m o.2.2.2.2 (D ++ [(k, o.2.2.1, o.2.2.2.1, [])]) R)) := by
        rcases hR with ⟨g, -⟩ | ⟨g, -⟩ | ⟨-, -, g, -⟩ | ⟨g, -⟩ | ⟨-, -, -, g⟩
        · omega
        · omega
        · omega
        · omega
        · exact g
      have hM2 := IDs_prt ht k4 hM1' e
      have e0 := hM2.1.2.2.2.2.1
      have hf2 := fT_t hf0 (fT_t (fT_59 f1) (fT_B ht e))
      have ih := fun lv' x y => c_rdD (d := d) (t := t) (n := n) (f := f) (D := D) (P := P) (K := K) (M0 := M0) (o := o) ht ⟨k4, k9⟩ (by omega) (fun hne M' f x y => by
        rcases ho with ⟨-, g⟩ | ⟨g, -⟩
        · exact hF (by rw [g]; exact hne) M' f (by rw [g]; exact x) (by rw [g]; exact y)
        · exact absurd g hne) (fun he M' p' i' lv' f hI hT' hi' hP' x y => by
        rcases ho with ⟨g, -⟩ | ⟨-, g⟩
        · exact absurd he g
        · exact c_rdA ht hF hE m o.2.2.2.2 p' _ _ i' M' lv' g hT' (by rw [List.length_append, List.length_singleton]; omega) hI f (by omega) hi' hP' x y) T q 0 0 0 (i + 1) M' lv' hLR h2 (by omega) (fun e => by omega) hM2 hf2 (by omega) (by omega) (by omega) x y
      clear hF hE hFa hR
      simp (disch := first | decide | omega) only [b49, w49_0, w49_1, w49_2, w49_5, w49_6, w49_9, w49_12, w49_13, w49_14, w49_17, w49_18, w49_19, w49_22, w49_23, w49_24, w49_27, w49_28, w49_31, w49_32, w49_35, w49_36, w49_38, w49_41, w49_44, w49_45, w49_48, w49_51, w49_52, w49_53, w49_55, w49_58, w49_59, w49_62, w49_63, w49_66, w49_67, w49_68, w49_69, w49_70, w49_71, w49_74, w49_77, w49_78, w49_81, w49_84, w49_85, w49_86, w49_89, w49_92, w49_95, w49_96, w49_97, w49_100, w49_103, w49_104, tc61, tr61_2, tr61_6, ta62, tn62, tc59, tr59_0, ta60, tn60, xLoad_i, xLoad_l, xLoad_r, xInc_s, xBr_t, xBr_f, xNz_s, xGf_s, xPf_s, xPz_s, xLd_2, xLd_7, xLd_10, xLdb_3, xLdb_5, xLdb_9, xLdl_4, xLdr_6, xSt_2, xStl_4, xStb_3, xStb_5, xLen_s, xLen_10, xCpy_s, xIv_s, xMx_s, mCont_s, mCont_n, w32_s, w64_s, upC_e, upC_n, upC_u, upC_c, mEn_c, mEn_n, mcw_i, mcw_l, mcw_r, mcat_n, mcat_i, mcat_l, mcat_r, xlong_i, xlong_l, xlong_r, xlong_n, s1_at, s2_at, ↓reduceIte, reduceCtorEq, and_self, true_and, and_true, false_and, and_false, Bool.false_eq_true, ne_eq, not_true_eq_false, not_false_eq_true, or_true, true_or, or_false, false_or, or_self, Int.tmod_eq_emod_of_nonneg, Int.tdiv_eq_ediv_of_nonneg, Classical.not_not, xSw, rOK, b2i_ok, b2i_0, b2i_1, Nat.reduceAdd, Nat.reduceSub, Nat.reduceMul, Nat.reduceEqDiff, Nat.reduceLeDiff, Nat.reduceLT, Int.reduceAdd, Int.reduceSub, Int.reduceMul, Int.reduceNeg, Int.reduceEq, Int.reduceNe, Int.reduceLT, Int.reduceLE, Int.reduceToNat, Int.reduceTDiv, Int.reduceTMod, b2i_em, g0, g2, mU_e, mU_n]
      rw [up61 e0]
      refine ih _ ?_ ?_
      all_goals simp [s1_at, s2_at, mEn_c, mcw_r, mcw_i, mcw_l, xlong_i, xlong_r, xlong_l, xlong_n, g0, g2]
