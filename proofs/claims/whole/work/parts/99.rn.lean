/-! a plan: the class, soonest -/
def hoF (A : Int → Int) (l : Nat) : Int := if 0 ≤ A (107 + l) ∧ A (107 + l) < 6 then A (10 + A (107 + l)) - A (119 + l) else 0
def hmF (A T at' : Int → Int) (k : Nat) : Int := at' k + A (10 + T k)
theorem hoF_R {A : Int → Int} (hw : WS A) (hd : WD A) {l : Nat} (hl : (l : Int) < A 1) : 0 ≤ hoF A l ∧ hoF A l ≤ 9 := by
  have b1 := hw.2.1
  have q := hd.2.2.2.2 l (by omega)
  unfold hoF
  split
  · rename_i c
    have q3 := q.2.2.1 hl c.1 c.2
    obtain ⟨b, hb⟩ := Int.eq_ofNat_of_zero_le c.1
    have ws := hw.2.2.1 b (by omega)
    rw [hb] at q3 ⊢
    omega
  · omega
theorem c_hoursOfThoseOn {d : Nat} {M : mM} {K : mQ} {A : Int → Int} {ru : RU} (hX : CX M A ru) : mCall (d + 2) 44 [vr 68] M K = K (some (vi (mxA (hoF A) (A 1).toNat))) M := by
  have e1 := hX.1.2.1
  have e0 := hX.1.1
  have b1 := hX.2.2.2.1.2.1
  have b0 := hX.2.2.2.1.1
  simp (disch := first | decide | omega) only [b44, w44_0, w44_1, w44_2, w44_3, w44_5, w44_6, w44_9, w44_12, w44_15, w44_16, w44_19, w44_22, w44_24, w44_25, w44_26, w44_27, w44_28, w44_29, w44_32, w44_33, w44_36, w44_39, w44_42, w44_43, w44_44, w44_47, w44_50, w44_51, w44_52, w44_53, w44_56, w44_59, w44_61, w44_62, w44_63, w44_64, w44_65, w44_68, w44_69, w44_72, w44_75, w44_76, tc68, tr68_0, tr68_1, tr68_2, tr68_3, tr68_4, tr68_5, tr68_6, ta69, tn69, ta70, tn70, ta71, tn71, ta72, tn72, ta73, tn73, tc2, tr2_2, tr2_3, tr2_4, tr2_5, tr2_6, tr2_7, tr2_8, tr2_9, tr2_12, tr2_13, tr2_15, ta3, tn3, ta4, tn4, ta5, tn5, ta6, tn6, ta7, tn7, ta8, tn8, ta9, tn9, ta10, tn10, ta11, tn11, ta12, tn12, ta13, tn13, xLoad_i, xLoad_l, xLoad_r, xInc_s, xBr_t, xBr_f, xNz_s, xGf_s, xPf_s, xPz_s, xLd_2, xLd_7, xLd_10, xLdb_3, xLdb_5, xLdb_9, xLdl_4, xLdr_6, xSt_2, xStl_4, xStb_3, xStb_5, xLen_s, xLen_10, xCpy_s, xIv_s, xMx_s, mCont_s, mCont_n, w32_s, w64_s, upC_e, upC_n, upC_u, upC_c, mEn_c, mEn_n, mcw_i, mcw_l, mcw_r, mcat_n, mcat_i, mcat_l, mcat_r, xlong_i, xlong_l, xlong_r, xlong_n, s1_at, s2_at, ↓reduceIte, reduceCtorEq, and_self, true_and, and_true, false_and, and_false, Bool.false_eq_true, ne_eq, not_true_eq_false, not_false_eq_true, or_true, true_or, or_false, false_or, or_self, Int.tmod_eq_emod_of_nonneg, Int.tdiv_eq_ediv_of_nonneg, Classical.not_not, xSw, rOK, b2i_ok, b2i_0, b2i_1, Nat.reduceAdd, Nat.reduceSub, Nat.reduceMul, Nat.reduceEqDiff, Nat.reduceLeDiff, Nat.reduceLT, Int.reduceAdd, Int.reduceSub, Int.reduceMul, Int.reduceNeg, Int.reduceEq, Int.reduceNe, Int.reduceLT, Int.reduceLE, Int.reduceToNat, Int.reduceTDiv, Int.reduceTMod, b2i_em]
  refine loopL (P := fun k lv M' => M' = M ∧ lv 0 = some (vr 68) ∧ lv 1 = some (vi (mxA (hoF A) k)) ∧ lv 2 = some (vi (k : Nat))) (G := fun lv M' => rn (d + 1) 44 K 4 lv [] M' = K (some (vi (mxA (hoF A) (A 1).toNat))) M) (A 1).toNat 0 (Nat.zero_le _) _ _ ⟨rfl, ?_, ?_, ?_⟩ (fun k hk ih lv M' hI => ?_) (fun lv M' hI => ?_)
  any_goals (simp [s1_at, s2_at, mEn_c, mcw_r, mcw_i, mcw_l, xlong_i, xlong_r, xlong_l, xlong_n, mxA]; done)
  · obtain ⟨rfl, g0, g1, g2⟩ := hI
    have q := hX.2.1.2.1 k (by omega)
    have q1 := q.1 (by omega)
    have q2 := q.2.2
    have w := hX.2.2.2.2.1.2.2.2.2 k (by omega)
    have hms := mxA_s (f := hoF A) (k := k)
    have hm0 := mxA_0 (f := hoF A) k
    have hR := hoF_R hX.2.2.2.1 hX.2.2.2.2.1 (l := k) (by omega)
    rw [w44_4]
    by_cases c : 0 ≤ A (107 + k) ∧ A (107 + k) < 6
    · have q3 := w.2.2.1 (by omega) c.1 c.2
      obtain ⟨b, hb⟩ := Int.eq_ofNat_of_zero_le c.1
      have e4 := (hX.1.2.2.1 b (by omega)).1
      have ws := hX.2.2.2.1.2.2.1 b (by omega)
      rw [show 2 + 2 = 4 from rfl] at e4
      have hof : hoF A k = A (10 + b) - A (119 + k) := by unfold hoF; rw [if_pos c, hb]
      rw [hof] at hms
      rw [hb] at q1 q3 c
      simp (disch := first | decide | omega) only [b44, w44_0, w44_1, w44_2, w44_3, w44_5, w44_6, w44_9, w44_12, w44_15, w44_16, w44_19, w44_22, w44_24, w44_25, w44_26, w44_27, w44_28, w44_29, w44_32, w44_33, w44_36, w44_39, w44_42, w44_43, w44_44, w44_47, w44_50, w44_51, w44_52, w44_53, w44_56, w44_59, w44_61, w44_62, w44_63, w44_64, w44_65, w44_68, w44_69, w44_72, w44_75, w44_76, tc68, tr68_0, tr68_1, tr68_2, tr68_3, tr68_4, tr68_5, tr68_6, ta69, tn69, ta70, tn70, ta71, tn71, ta72, tn72, ta73, tn73, tc2, tr2_2, tr2_3, tr2_4, tr2_5, tr2_6, tr2_7, tr2_8, tr2_9, tr2_12, tr2_13, tr2_15, ta3, tn3, ta4, tn4, ta5, tn5, ta6, tn6, ta7, tn7, ta8, tn8, ta9, tn9, ta10, tn10, ta11, tn11, ta12, tn12, ta13, tn13, xLoad_i, xLoad_l, xLoad_r, xInc_s, xBr_t, xBr_f, xNz_s, xGf_s, xPf_s, xPz_s, xLd_2, xLd_7, xLd_10, xLdb_3, xLdb_5, xLdb_9, xLdl_4, xLdr_6, xSt_2, xStl_4, xStb_3, xStb_5, xLen_s, xLen_10, xCpy_s, xIv_s, xMx_s, mCont_s, mCont_n, w32_s, w64_s, upC_e, upC_n, upC_u, upC_c, mEn_c, mEn_n, mcw_i, mcw_l, mcw_r, mcat_n, mcat_i, mcat_l, mcat_r, xlong_i, xlong_l, xlong_r, xlong_n, s1_at, s2_at, ↓reduceIte, reduceCtorEq, and_self, true_and, and_true, false_and, and_false, Bool.false_eq_true, ne_eq, not_true_eq_false, not_false_eq_true, or_true, true_or, or_false, false_or, or_self, Int.tmod_eq_emod_of_nonneg, Int.tdiv_eq_ediv_of_nonneg, Classical.not_not, xSw, rOK, b2i_ok, b2i_0, b2i_1, Nat.reduceAdd, Nat.reduceSub, Nat.reduceMul, Nat.reduceEqDiff, Nat.reduceLeDiff, Nat.reduceLT, Int.reduceAdd, Int.reduceSub, Int.reduceMul, Int.reduceNeg, Int.reduceEq, Int.reduceNe, Int.reduceLT, Int.reduceLE, Int.reduceToNat, Int.reduceTDiv, Int.reduceTMod, b2i_em, g0, g1, g2, e1, q1, c_hasBridge, e0, b2i_t, e4, q2]
      refine ih _ _ ⟨rfl, ?_, ?_, ?_⟩
      all_goals simp [s1_at, s2_at, mEn_c, mcw_r, mcw_i, mcw_l, xlong_i, xlong_r, xlong_l, xlong_n, g0, g1, g2, hms]
    · have hof : hoF A k = 0 := if_neg c
      rw [hof, show max (mxA (hoF A) k) 0 = mxA (hoF A) k by omega] at hms
      have c' : ¬ (0 ≤ A (107 + k) ∧ A (107 + k) < A 0) := by omega
      simp (disch := first | decide | omega) only [b44, w44_0, w44_1, w44_2, w44_3, w44_5, w44_6, w44_9, w44_12, w44_15, w44_16, w44_19, w44_22, w44_24, w44_25, w44_26, w44_27, w44_28, w44_29, w44_32, w44_33, w44_36, w44_39, w44_42, w44_43, w44_44, w44_47, w44_50, w44_51, w44_52, w44_53, w44_56, w44_59, w44_61, w44_62, w44_63, w44_64, w44_65, w44_68, w44_69, w44_72, w44_75, w44_76, tc68, tr68_0, tr68_1, tr68_2, tr68_3, tr68_4, tr68_5, tr68_6, ta69, tn69, ta70, tn70, ta71, tn71, ta72, tn72, ta73, tn73, tc2, tr2_2, tr2_3, tr2_4, tr2_5, tr2_6, tr2_7, tr2_8, tr2_9, tr2_12, tr2_13, tr2_15, ta3, tn3, ta4, tn4, ta5, tn5, ta6, tn6, ta7, tn7, ta8, tn8, ta9, tn9, ta10, tn10, ta11, tn11, ta12, tn12, ta13, tn13, xLoad_i, xLoad_l, xLoad_r, xInc_s, xBr_t, xBr_f, xNz_s, xGf_s, xPf_s, xPz_s, xLd_2, xLd_7, xLd_10, xLdb_3, xLdb_5, xLdb_9, xLdl_4, xLdr_6, xSt_2, xStl_4, xStb_3, xStb_5, xLen_s, xLen_10, xCpy_s, xIv_s, xMx_s, mCont_s, mCont_n, w32_s, w64_s, upC_e, upC_n, upC_u, upC_c, mEn_c, mEn_n, mcw_i, mcw_l, mcw_r, mcat_n, mcat_i, mcat_l, mcat_r, xlong_i, xlong_l, xlong_r, xlong_n, s1_at, s2_at, ↓reduceIte, reduceCtorEq, and_self, true_and, and_true, false_and, and_false, Bool.false_eq_true, ne_eq, not_true_eq_false, not_false_eq_true, or_true, true_or, or_false, false_or, or_self, Int.tmod_eq_emod_of_nonneg, Int.tdiv_eq_ediv_of_nonneg, Classical.not_not, xSw, rOK, b2i_ok, b2i_0, b2i_1, Nat.reduceAdd, Nat.reduceSub, Nat.reduceMul, Nat.reduceEqDiff, Nat.reduceLeDiff, Nat.reduceLT, Int.reduceAdd, Int.reduceSub, Int.reduceMul, Int.reduceNeg, Int.reduceEq, Int.reduceNe, Int.reduceLT, Int.reduceLE, Int.reduceToNat, Int.reduceTDiv, Int.reduceTMod, b2i_em, g0, g1, g2, e1, q1, c_hasBridge, e0, b2i_f]
      refine ih _ _ ⟨rfl, ?_, ?_, ?_⟩
      all_goals simp [s1_at, s2_at, mEn_c, mcw_r, mcw_i, mcw_l, xlong_i, xlong_r, xlong_l, xlong_n, g0, g1, g2, hms]
  · obtain ⟨rfl, g0, g1, g2⟩ := hI
    rw [w44_4]
    simp (disch := first | decide | omega) only [b44, w44_0, w44_1, w44_2, w44_3, w44_5, w44_6, w44_9, w44_12, w44_15, w44_16, w44_19, w44_22, w44_24, w44_25, w44_26, w44_27, w44_28, w44_29, w44_32, w44_33, w44_36, w44_39, w44_42, w44_43, w44_44, w44_47, w44_50, w44_51, w44_52, w44_53, w44_56, w44_59, w44_61, w44_62, w44_63, w44_64, w44_65, w44_68, w44_69, w44_72, w44_75, w44_76, tc68, tr68_0, tr68_1, tr68_2, tr68_3, tr68_4, tr68_5, tr68_6, ta69, tn69, ta70, tn70, ta71, tn71, ta72, tn72, ta73, tn73, tc2, tr2_2, tr2_3, tr2_4, tr2_5, tr2_6, tr2_7, tr2_8, tr2_9, tr2_12, tr2_13, tr2_15, ta3, tn3, ta4, tn4, ta5, tn5, ta6, tn6, ta7, tn7, ta8, tn8, ta9, tn9, ta10, tn10, ta11, tn11, ta12, tn12, ta13, tn13, xLoad_i, xLoad_l, xLoad_r, xInc_s, xBr_t, xBr_f, xNz_s, xGf_s, xPf_s, xPz_s, xLd_2, xLd_7, xLd_10, xLdb_3, xLdb_5, xLdb_9, xLdl_4, xLdr_6, xSt_2, xStl_4, xStb_3, xStb_5, xLen_s, xLen_10, xCpy_s, xIv_s, xMx_s, mCont_s, mCont_n, w32_s, w64_s, upC_e, upC_n, upC_u, upC_c, mEn_c, mEn_n, mcw_i, mcw_l, mcw_r, mcat_n, mcat_i, mcat_l, mcat_r, xlong_i, xlong_l, xlong_r, xlong_n, s1_at, s2_at, ↓reduceIte, reduceCtorEq, and_self, true_and, and_true, false_and, and_false, Bool.false_eq_true, ne_eq, not_true_eq_false, not_false_eq_true, or_true, true_or, or_false, false_or, or_self, Int.tmod_eq_emod_of_nonneg, Int.tdiv_eq_ediv_of_nonneg, Classical.not_not, xSw, rOK, b2i_ok, b2i_0, b2i_1, Nat.reduceAdd, Nat.reduceSub, Nat.reduceMul, Nat.reduceEqDiff, Nat.reduceLeDiff, Nat.reduceLT, Int.reduceAdd, Int.reduceSub, Int.reduceMul, Int.reduceNeg, Int.reduceEq, Int.reduceNe, Int.reduceLT, Int.reduceLE, Int.reduceToNat, Int.reduceTDiv, Int.reduceTMod, b2i_em, g0, g1, g2, e1]
theorem c_hoursOfMembers {d n : Nat} {M : mM} {K : mQ} {A T at' : Int → Int} {ru : RU} {L : List Nat} (hX : CX M A ru) (hP : PLs n L T M) (hn : n ≤ 4) (hT : ∀ k : Nat, k < n → 0 ≤ T k ∧ T k < 6) (hAt : ∀ k : Nat, k < n → M 71 k = at' k ∧ 0 ≤ at' k ∧ at' k ≤ 5) : mCall (d + 1) 45 [vr 68] M K = K (some (vi (mxA (hmF A T at') n))) M := by
  have q7 := hP.1
  simp (disch := first | decide | omega) only [b45, w45_0, w45_1, w45_2, w45_3, w45_5, w45_6, w45_9, w45_12, w45_13, w45_14, w45_17, w45_18, w45_19, w45_20, w45_23, w45_26, w45_27, w45_30, w45_31, w45_32, w45_33, w45_34, w45_37, w45_38, w45_41, w45_44, w45_45, tc68, tr68_0, tr68_1, tr68_2, tr68_3, tr68_4, tr68_5, tr68_6, ta69, tn69, ta70, tn70, ta71, tn71, ta72, tn72, ta73, tn73, tc2, tr2_2, tr2_3, tr2_4, tr2_5, tr2_6, tr2_7, tr2_8, tr2_9, tr2_12, tr2_13, tr2_15, ta3, tn3, ta4, tn4, ta5, tn5, ta6, tn6, ta7, tn7, ta8, tn8, ta9, tn9, ta10, tn10, ta11, tn11, ta12, tn12, ta13, tn13, xLoad_i, xLoad_l, xLoad_r, xInc_s, xBr_t, xBr_f, xNz_s, xGf_s, xPf_s, xPz_s, xLd_2, xLd_7, xLd_10, xLdb_3, xLdb_5, xLdb_9, xLdl_4, xLdr_6, xSt_2, xStl_4, xStb_3, xStb_5, xLen_s, xLen_10, xCpy_s, xIv_s, xMx_s, mCont_s, mCont_n, w32_s, w64_s, upC_e, upC_n, upC_u, upC_c, mEn_c, mEn_n, mcw_i, mcw_l, mcw_r, mcat_n, mcat_i, mcat_l, mcat_r, xlong_i, xlong_l, xlong_r, xlong_n, s1_at, s2_at, ↓reduceIte, reduceCtorEq, and_self, true_and, and_true, false_and, and_false, Bool.false_eq_true, ne_eq, not_true_eq_false, not_false_eq_true, or_true, true_or, or_false, false_or, or_self, Int.tmod_eq_emod_of_nonneg, Int.tdiv_eq_ediv_of_nonneg, Classical.not_not, xSw, rOK, b2i_ok, b2i_0, b2i_1, Nat.reduceAdd, Nat.reduceSub, Nat.reduceMul, Nat.reduceEqDiff, Nat.reduceLeDiff, Nat.reduceLT, Int.reduceAdd, Int.reduceSub, Int.reduceMul, Int.reduceNeg, Int.reduceEq, Int.reduceNe, Int.reduceLT, Int.reduceLE, Int.reduceToNat, Int.reduceTDiv, Int.reduceTMod, b2i_em]
  refine loopL (P := fun k lv M' => M' = M ∧ lv 0 = some (vr 68) ∧ lv 1 = some (vi (mxA (hmF A T at') k)) ∧ lv 2 = some (vi (k : Nat))) (G := fun lv M' => rn d 45 K 4 lv [] M' = K (some (vi (mxA (hmF A T at') n))) M) n 0 (Nat.zero_le _) _ _ ⟨rfl, ?_, ?_, ?_⟩ (fun k hk ih lv M' hI => ?_) (fun lv M' hI => ?_)
  any_goals (simp [s1_at, s2_at, mEn_c, mcw_r, mcw_i, mcw_l, xlong_i, xlong_r, xlong_l, xlong_n, mxA]; done)
  · obtain ⟨rfl, g0, g1, g2⟩ := hI
    have hTk := hT k hk
    obtain ⟨t, ht⟩ := Int.eq_ofNat_of_zero_le hTk.1
    have qT := hP.2.2 k hk
    have hms := mxA_s (f := hmF A T at') (k := k)
    have hmf : hmF A T at' k = at' k + A (10 + t) := by unfold hmF; rw [ht]
    rw [hmf] at hms
    rw [ht] at qT hTk
    have e4 := (hX.1.2.2.1 t (by omega)).1
    rw [show 2 + 2 = 4 from rfl] at e4
    have ws := hX.2.2.2.1.2.2.1 t (by omega)
    obtain ⟨a1, a2, a3⟩ := hAt k hk
    rw [w45_4]
    simp (disch := first | decide | omega) only [b45, w45_0, w45_1, w45_2, w45_3, w45_5, w45_6, w45_9, w45_12, w45_13, w45_14, w45_17, w45_18, w45_19, w45_20, w45_23, w45_26, w45_27, w45_30, w45_31, w45_32, w45_33, w45_34, w45_37, w45_38, w45_41, w45_44, w45_45, tc68, tr68_0, tr68_1, tr68_2, tr68_3, tr68_4, tr68_5, tr68_6, ta69, tn69, ta70, tn70, ta71, tn71, ta72, tn72, ta73, tn73, tc2, tr2_2, tr2_3, tr2_4, tr2_5, tr2_6, tr2_7, tr2_8, tr2_9, tr2_12, tr2_13, tr2_15, ta3, tn3, ta4, tn4, ta5, tn5, ta6, tn6, ta7, tn7, ta8, tn8, ta9, tn9, ta10, tn10, ta11, tn11, ta12, tn12, ta13, tn13, xLoad_i, xLoad_l, xLoad_r, xInc_s, xBr_t, xBr_f, xNz_s, xGf_s, xPf_s, xPz_s, xLd_2, xLd_7, xLd_10, xLdb_3, xLdb_5, xLdb_9, xLdl_4, xLdr_6, xSt_2, xStl_4, xStb_3, xStb_5, xLen_s, xLen_10, xCpy_s, xIv_s, xMx_s, mCont_s, mCont_n, w32_s, w64_s, upC_e, upC_n, upC_u, upC_c, mEn_c, mEn_n, mcw_i, mcw_l, mcw_r, mcat_n, mcat_i, mcat_l, mcat_r, xlong_i, xlong_l, xlong_r, xlong_n, s1_at, s2_at, ↓reduceIte, reduceCtorEq, and_self, true_and, and_true, false_and, and_false, Bool.false_eq_true, ne_eq, not_true_eq_false, not_false_eq_true, or_true, true_or, or_false, false_or, or_self, Int.tmod_eq_emod_of_nonneg, Int.tdiv_eq_ediv_of_nonneg, Classical.not_not, xSw, rOK, b2i_ok, b2i_0, b2i_1, Nat.reduceAdd, Nat.reduceSub, Nat.reduceMul, Nat.reduceEqDiff, Nat.reduceLeDiff, Nat.reduceLT, Int.reduceAdd, Int.reduceSub, Int.reduceMul, Int.reduceNeg, Int.reduceEq, Int.reduceNe, Int.reduceLT, Int.reduceLE, Int.reduceToNat, Int.reduceTDiv, Int.reduceTMod, b2i_em, g0, g1, g2, q7, a1, qT, e4]
    refine ih _ _ ⟨rfl, ?_, ?_, ?_⟩
    all_goals simp [s1_at, s2_at, mEn_c, mcw_r, mcw_i, mcw_l, xlong_i, xlong_r, xlong_l, xlong_n, g0, g1, g2, hms]
  · obtain ⟨rfl, g0, g1, g2⟩ := hI
    rw [w45_4]
    simp (disch := first | decide | omega) only [b45, w45_0, w45_1, w45_2, w45_3, w45_5, w45_6, w45_9, w45_12, w45_13, w45_14, w45_17, w45_18, w45_19, w45_20, w45_23, w45_26, w45_27, w45_30, w45_31, w45_32, w45_33, w45_34, w45_37, w45_38, w45_41, w45_44, w45_45, tc68, tr68_0, tr68_1, tr68_2, tr68_3, tr68_4, tr68_5, tr68_6, ta69, tn69, ta70, tn70, ta71, tn71, ta72, tn72, ta73, tn73, tc2, tr2_2, tr2_3, tr2_4, tr2_5, tr2_6, tr2_7, tr2_8, tr2_9, tr2_12, tr2_13, tr2_15, ta3, tn3, ta4, tn4, ta5, tn5, ta6, tn6, ta7, tn7, ta8, tn8, ta9, tn9, ta10, tn10, ta11, tn11, ta12, tn12, ta13, tn13, xLoad_i, xLoad_l, xLoad_r, xInc_s, xBr_t, xBr_f, xNz_s, xGf_s, xPf_s, xPz_s, xLd_2, xLd_7, xLd_10, xLdb_3, xLdb_5, xLdb_9, xLdl_4, xLdr_6, xSt_2, xStl_4, xStb_3, xStb_5, xLen_s, xLen_10, xCpy_s, xIv_s, xMx_s, mCont_s, mCont_n, w32_s, w64_s, upC_e, upC_n, upC_u, upC_c, mEn_c, mEn_n, mcw_i, mcw_l, mcw_r, mcat_n, mcat_i, mcat_l, mcat_r, xlong_i, xlong_l, xlong_r, xlong_n, s1_at, s2_at, ↓reduceIte, reduceCtorEq, and_self, true_and, and_true, false_and, and_false, Bool.false_eq_true, ne_eq, not_true_eq_false, not_false_eq_true, or_true, true_or, or_false, false_or, or_self, Int.tmod_eq_emod_of_nonneg, Int.tdiv_eq_ediv_of_nonneg, Classical.not_not, xSw, rOK, b2i_ok, b2i_0, b2i_1, Nat.reduceAdd, Nat.reduceSub, Nat.reduceMul, Nat.reduceEqDiff, Nat.reduceLeDiff, Nat.reduceLT, Int.reduceAdd, Int.reduceSub, Int.reduceMul, Int.reduceNeg, Int.reduceEq, Int.reduceNe, Int.reduceLT, Int.reduceLE, Int.reduceToNat, Int.reduceTDiv, Int.reduceTMod, b2i_em, g0, g1, g2, q7]
/-- the waits of a way -/
def wvt (n t : Nat) : Int → Int := fun k => ((t / 6 ^ (n - 1 - k.toNat) % 6 : Nat) : Int)
theorem wvt_R {n t : Nat} {k : Int} : 0 ≤ wvt n t k ∧ wvt n t k ≤ 5 := by unfold wvt; omega
theorem p6_R : ∀ n, n < 5 → 1 ≤ 6 ^ n ∧ 6 ^ n ≤ 1296 := by decide +kernel
theorem c_spreadWaits {d n t : Nat} {M : mM} {K : mQ} (hn : n ≤ 4) (ht : t ≤ 2000) (h7 : M 68 7 = n) (hK : ∀ M', fr [71] M M' → (∀ k : Nat, k < n → M' 71 k = wvt n t k) → K none M') : mCall (d + 1) 43 [vr 68, vi t] M K := by
  simp (disch := first | decide | omega) only [b43, w43_0, w43_1, w43_2, w43_3, w43_6, w43_7, w43_8, w43_10, w43_13, w43_14, w43_17, w43_18, w43_19, w43_21, w43_22, w43_23, w43_24, w43_26, w43_27, w43_28, w43_31, w43_34, tc68, tr68_0, tr68_1, tr68_2, tr68_3, tr68_4, tr68_5, tr68_6, ta69, tn69, ta70, tn70, ta71, tn71, ta72, tn72, ta73, tn73, xLoad_i, xLoad_l, xLoad_r, xInc_s, xBr_t, xBr_f, xNz_s, xGf_s, xPf_s, xPz_s, xLd_2, xLd_7, xLd_10, xLdb_3, xLdb_5, xLdb_9, xLdl_4, xLdr_6, xSt_2, xStl_4, xStb_3, xStb_5, xLen_s, xLen_10, xCpy_s, xIv_s, xMx_s, mCont_s, mCont_n, w32_s, w64_s, upC_e, upC_n, upC_u, upC_c, mEn_c, mEn_n, mcw_i, mcw_l, mcw_r, mcat_n, mcat_i, mcat_l, mcat_r, xlong_i, xlong_l, xlong_r, xlong_n, s1_at, s2_at, ↓reduceIte, reduceCtorEq, and_self, true_and, and_true, false_and, and_false, Bool.false_eq_true, ne_eq, not_true_eq_false, not_false_eq_true, or_true, true_or, or_false, false_or, or_self, Int.tmod_eq_emod_of_nonneg, Int.tdiv_eq_ediv_of_nonneg, Classical.not_not, xSw, rOK, b2i_ok, b2i_0, b2i_1, Nat.reduceAdd, Nat.reduceSub, Nat.reduceMul, Nat.reduceEqDiff, Nat.reduceLeDiff, Nat.reduceLT, Int.reduceAdd, Int.reduceSub, Int.reduceMul, Int.reduceNeg, Int.reduceEq, Int.reduceNe, Int.reduceLT, Int.reduceLE, Int.reduceToNat, Int.reduceTDiv, Int.reduceTMod, b2i_em, h7]
  refine loopL (P := fun k lv M' => fr [71] M M' ∧ (∀ j : Nat, j < n → n ≤ j + k → M' 71 j = wvt n t j) ∧ lv 0 = some (vr 68) ∧ lv 2 = some (vi (t / 6 ^ k : Nat)) ∧ lv 3 = some (vi ((n : Int) - 1 - k))) (G := fun lv M' => rn d 43 K 9 lv [] M') n 0 (Nat.zero_le _) _ _ ⟨fr_refl, fun j h1 h2 => absurd h1 (by omega), ?_, ?_, ?_⟩ (fun k hk ih lv M' hI => ?_) (fun lv M' hI => ?_)
  any_goals (simp [s1_at, s2_at, mEn_c, mcw_r, mcw_i, mcw_l, xlong_i, xlong_r, xlong_l, xlong_n, Nat.pow_zero, Nat.div_one]; done)
  · obtain ⟨hf, hq, g0, g2, g3⟩ := hI
    obtain ⟨r, hr⟩ : ∃ r, t / 6 ^ k = r := ⟨_, rfl⟩
    have hr3 : r ≤ 2000 := by rw [← hr]; exact Nat.le_trans (Nat.div_le_self _ _) ht
    have hqk : t / 6 ^ (k + 1) = r / 6 := by rw [Nat.pow_succ, ← Nat.div_div_eq_div_mul, hr]
    have e2 : (r : Int) / 6 = ((r / 6 : Nat) : Int) := rfl
    have hwd : wvt n t ((n - 1 - k : Nat) : Int) = (r : Int) % 6 := by
      show ((t / 6 ^ (n - 1 - (n - 1 - k)) % 6 : Nat) : Int) = _
      rw [show n - 1 - (n - 1 - k) = k by omega, hr]
      rfl
    have hi : (n : Int) - 1 - k = ((n - 1 - k : Nat) : Int) := by omega
    have e5 : ((n - 1 - k : Nat) : Int) + -1 = (n : Int) - 1 - ((k + 1 : Nat) : Int) := by omega
    rw [hr] at g2
    rw [hi] at g3
    rw [w43_9]
    simp (disch := first | decide | omega) only [b43, w43_0, w43_1, w43_2, w43_3, w43_6, w43_7, w43_8, w43_10, w43_13, w43_14, w43_17, w43_18, w43_19, w43_21, w43_22, w43_23, w43_24, w43_26, w43_27, w43_28, w43_31, w43_34, tc68, tr68_0, tr68_1, tr68_2, tr68_3, tr68_4, tr68_5, tr68_6, ta69, tn69, ta70, tn70, ta71, tn71, ta72, tn72, ta73, tn73, xLoad_i, xLoad_l, xLoad_r, xInc_s, xBr_t, xBr_f, xNz_s, xGf_s, xPf_s, xPz_s, xLd_2, xLd_7, xLd_10, xLdb_3, xLdb_5, xLdb_9, xLdl_4, xLdr_6, xSt_2, xStl_4, xStb_3, xStb_5, xLen_s, xLen_10, xCpy_s, xIv_s, xMx_s, mCont_s, mCont_n, w32_s, w64_s, upC_e, upC_n, upC_u, upC_c, mEn_c, mEn_n, mcw_i, mcw_l, mcw_r, mcat_n, mcat_i, mcat_l, mcat_r, xlong_i, xlong_l, xlong_r, xlong_n, s1_at, s2_at, ↓reduceIte, reduceCtorEq, and_self, true_and, and_true, false_and, and_false, Bool.false_eq_true, ne_eq, not_true_eq_false, not_false_eq_true, or_true, true_or, or_false, false_or, or_self, Int.tmod_eq_emod_of_nonneg, Int.tdiv_eq_ediv_of_nonneg, Classical.not_not, xSw, rOK, b2i_ok, b2i_0, b2i_1, Nat.reduceAdd, Nat.reduceSub, Nat.reduceMul, Nat.reduceEqDiff, Nat.reduceLeDiff, Nat.reduceLT, Int.reduceAdd, Int.reduceSub, Int.reduceMul, Int.reduceNeg, Int.reduceEq, Int.reduceNe, Int.reduceLT, Int.reduceLE, Int.reduceToNat, Int.reduceTDiv, Int.reduceTMod, b2i_em, g0, g2, g3, e2]
    refine ih _ _ ⟨fun a ha => by rw [upC_n (by intro e; exact ha (by rw [e]; exact List.mem_singleton.mpr rfl)), hf a ha], fun j h1 h2 => ?_, ?_, ?_, ?_⟩
    any_goals (simp [s1_at, s2_at, mEn_c, mcw_r, mcw_i, mcw_l, xlong_i, xlong_r, xlong_l, xlong_n, g0, g2, g3, hqk, e5]; done)
    rw [upC_e]
    by_cases e : j = n - 1 - k
    · rw [e, mU_e, hwd]
    · rw [mU_n (by omega), hq j h1 (by omega)]
  · obtain ⟨hf, hq, g0, g2, g3⟩ := hI
    have e5 : (n : Int) - 1 - (n : Nat) = -1 := by omega
    rw [e5] at g3
    have hr := hK M' hf (fun k hk => hq k hk (by omega))
    rw [w43_9]
    simp (disch := first | decide | omega) only [b43, w43_0, w43_1, w43_2, w43_3, w43_6, w43_7, w43_8, w43_10, w43_13, w43_14, w43_17, w43_18, w43_19, w43_21, w43_22, w43_23, w43_24, w43_26, w43_27, w43_28, w43_31, w43_34, tc68, tr68_0, tr68_1, tr68_2, tr68_3, tr68_4, tr68_5, tr68_6, ta69, tn69, ta70, tn70, ta71, tn71, ta72, tn72, ta73, tn73, xLoad_i, xLoad_l, xLoad_r, xInc_s, xBr_t, xBr_f, xNz_s, xGf_s, xPf_s, xPz_s, xLd_2, xLd_7, xLd_10, xLdb_3, xLdb_5, xLdb_9, xLdl_4, xLdr_6, xSt_2, xStl_4, xStb_3, xStb_5, xLen_s, xLen_10, xCpy_s, xIv_s, xMx_s, mCont_s, mCont_n, w32_s, w64_s, upC_e, upC_n, upC_u, upC_c, mEn_c, mEn_n, mcw_i, mcw_l, mcw_r, mcat_n, mcat_i, mcat_l, mcat_r, xlong_i, xlong_l, xlong_r, xlong_n, s1_at, s2_at, ↓reduceIte, reduceCtorEq, and_self, true_and, and_true, false_and, and_false, Bool.false_eq_true, ne_eq, not_true_eq_false, not_false_eq_true, or_true, true_or, or_false, false_or, or_self, Int.tmod_eq_emod_of_nonneg, Int.tdiv_eq_ediv_of_nonneg, Classical.not_not, xSw, rOK, b2i_ok, b2i_0, b2i_1, Nat.reduceAdd, Nat.reduceSub, Nat.reduceMul, Nat.reduceEqDiff, Nat.reduceLeDiff, Nat.reduceLT, Int.reduceAdd, Int.reduceSub, Int.reduceMul, Int.reduceNeg, Int.reduceEq, Int.reduceNe, Int.reduceLT, Int.reduceLE, Int.reduceToNat, Int.reduceTDiv, Int.reduceTMod, b2i_em, g0, g2, g3]
    exact hr
/-- the first of the least -/
def bF (ok hr : Nat → Int) : Nat → Int × Nat
  | 0 => (-1, 0)
  | t + 1 => if ok t = 1 ∧ ((bF ok hr t).1 = -1 ∨ hr t < (bF ok hr t).1) then (hr t, t) else bF ok hr t
theorem bF_s {ok hr : Nat → Int} {t : Nat} : bF ok hr (t + 1) = if ok t = 1 ∧ ((bF ok hr t).1 = -1 ∨ hr t < (bF ok hr t).1) then (hr t, t) else bF ok hr t := rfl
theorem bF_R {ok hr : Nat → Int} {z : Int} (h : ∀ t, 0 ≤ hr t ∧ hr t ≤ z) (hz : -1 ≤ z) : ∀ n, -1 ≤ (bF ok hr n).1 ∧ (bF ok hr n).1 ≤ z
  | 0 => by unfold bF; exact ⟨by decide, hz⟩
  | n + 1 => by
    have ih := bF_R (ok := ok) h hz n
    have := h n
    rw [bF_s]
    split
    · dsimp only; omega
    · exact ih
def hrs (A T : Int → Int) (n t : Nat) : Int := max (mxA (hoF A) (A 1).toNat) (mxA (hmF A T (wvt n t)) n)
def okT (ru : RU) (A T : Int → Int) (L : List Nat) (n t : Nat) : Int := if cn (tnG ru A T L n (wvt n t)) (hrs A T n t).toNat = 0 then 1 else 0
theorem hrs_R {A T : Int → Int} {n t : Nat} (hw : WS A) (hd : WD A) (hT : ∀ k : Nat, k < n → 0 ≤ T k ∧ T k < 6) : 0 ≤ hrs A T n t ∧ hrs A T n t ≤ 14 := by
  have h1 : mxA (hoF A) (A 1).toNat ≤ 14 := mxA_le (by decide) _ (fun k hk => by have := hoF_R hw hd (l := k) (by omega); omega)
  have h2 : mxA (hmF A T (wvt n t)) n ≤ 14 := mxA_le (by decide) _ (fun k hk => by
    have hTk := hT k hk
    obtain ⟨b, hb⟩ := Int.eq_ofNat_of_zero_le hTk.1
    have ws := hw.2.2.1 b (by omega)
    have := wvt_R (n := n) (t := t) (k := k)
    unfold hmF
    rw [hb]
    omega)
  have h3 := mxA_0 (f := hoF A) (A 1).toNat
  unfold hrs
  omega
