/-! text: the class takes a joint -/
theorem topF_c {x : Int} {ws : List Int} {F : FR} : topF ((x, ws) :: F) = x := rfl
theorem par_nts {bs : List Int} : ∀ n : Nat, par (nts n [(1, bs)]) = 0 ∧ cmF (nts n [(1, bs)]) = 0
  | 0 => ⟨rfl, rfl⟩
  | n + 1 => by
    obtain ⟨a, b⟩ := par_nts (bs := bs) n
    show par ((14, []) :: nts n [(1, bs)]) = 0 ∧ cmF ((14, []) :: nts n [(1, bs)]) = 0
    rw [par_c, cmF_c (by decide), if_neg (by decide), a, b]
    exact ⟨rfl, rfl⟩
/-- what a token behind a ONE finds -/
theorem tj_top {w : Int} {aA : Bool} {F : FR} (h : okM2 (decide (w = 1)) F false aA) : (∃ ws G, F = (39, ws) :: G ∧ aw ws ∧ 0 < par F ∧ dep F = dep G + 1 ∧ par F = par G + 1 ∧ okF (decide (w = 1)) G ∧ arB (decide (w = 1)) (topF G)) ∨ (par F = 0 ∧ w = 1 ∧ cmF F = 0 ∧ ∃ ws n bs, F = (2, ws) :: nts n [(1, bs)] ∧ aw ws ∧ bw bs ∧ dep F = n) ∨ (par F = 0 ∧ w = 1 ∧ cmF F = 1 ∧ ∃ x ws n bs, isR x ∧ F = (x, ws) :: nts n [(1, bs)] ∧ aw ws ∧ bw bs ∧ dep F = n) ∨ (par F = 0 ∧ w ≠ 1 ∧ cmF F = 0 ∧ ∃ ws, F = [(1, ws)] ∧ aw ws ∧ dep F = 0) := by
  obtain ⟨hF, -, -, h3⟩ := h
  obtain ⟨-, g1, g2⟩ := h3 rfl
  cases F with
  | nil => exact hF.elim
  | cons p G =>
    obtain ⟨x, ws⟩ := p
    rw [topF_c] at g1 g2
    have ha := okF_aw hF g1 g2
    have hb : x = 2 ∨ isR x → w = 1 ∧ ∃ n bs, G = nts n [(1, bs)] ∧ bw bs ∧ dep ((x, ws) :: G) = n := fun hx => by
      obtain ⟨n, bs, e⟩ := okF_R hF hx
      have hG : okF (decide (w = 1)) G ∧ asB (decide (w = 1)) (topF G) := by
        cases G with
        | nil =>
          exfalso
          have := hF.1
          unfold isR at hx
          omega
        | cons p G =>
          refine ⟨hF.1, ?_⟩
          have h2 := hF.2
          unfold isR at h2 hx
          rcases h2 with q | q | q | q
          · exfalso; have := q.1; omega
          · exact q.2.2
          · exfalso; have := q.1; omega
          · exfalso; have := q.1; omega
      rw [e] at hG
      obtain ⟨a, b, c, f⟩ := nts_ok n hG.1 hG.2
      refine ⟨of_decide_eq_true a, n, bs, e, b, ?_⟩
      rw [dep_c, if_neg (by unfold isR at hx; omega), e, f, Nat.zero_add]
    by_cases c1 : x = 39
    · subst c1
      left
      have hG : okF (decide (w = 1)) G ∧ arB (decide (w = 1)) (topF G) := by
        cases G with
        | nil => exact absurd hF.1 (by decide)
        | cons p G =>
          refine ⟨hF.1, ?_⟩
          have h2 := hF.2
          unfold isR at h2
          rcases h2 with q | q | q | q
          · exact absurd q.1 (by decide)
          · exact absurd q.1 (by decide)
          · exact q.2.2
          · exact absurd q.1 (by decide)
      refine ⟨ws, G, rfl, ha, ?_, ?_, ?_, hG.1, hG.2⟩
      · rw [par_c, if_pos rfl]; omega
      · rw [dep_c, if_pos (by decide)]; omega
      · rw [par_c, if_pos rfl]; omega
    · right
      by_cases c2 : x = 2
      · subst c2
        left
        obtain ⟨a, n, bs, e, b, c⟩ := hb (Or.inl rfl)
        subst e
        refine ⟨?_, a, ?_, ws, n, bs, rfl, ha, b, c⟩
        · rw [par_c, if_neg (by decide), (par_nts n).1]
        · rw [cmF_c (by decide), (par_nts n).2]
      · right
        by_cases c3 : isR x
        · left
          obtain ⟨a, n, bs, e, b, c⟩ := hb (Or.inr c3)
          subst e
          refine ⟨?_, a, ?_, x, ws, n, bs, c3, rfl, ha, b, c⟩
          · rw [par_c, if_neg c1, (par_nts n).1]
          · exact if_pos c3
        · right
          have hx : x = 1 ∧ decide (w = 1) = false := by
            unfold arB at g1
            rcases g1 with g | g | g | g | g
            · exact absurd g c1
            · exact absurd g g2
            · exact absurd g c2
            · exact absurd g c3
            · exact g
          obtain ⟨rfl, hw⟩ := hx
          cases G with
          | nil => exact ⟨rfl, of_decide_eq_false hw, rfl, ws, rfl, ha, rfl⟩
          | cons p G =>
            exfalso
            obtain ⟨y, us⟩ := p
            have h2 := hF.2
            unfold isR at h2
            rcases h2 with q | q | q | q
            · have := q.1; omega
            · rcases q.1 with q1 | q1 <;> omega
            · have := q.1; omega
            · have := q.1; omega
/-- the frame of a clause's end -/
def fEn (t : Nat) (w x : Int) (M M' : mM) : Prop := (∀ k, k ≠ 61 → k ≠ 62 → k ≠ 27 + 8 * t → k ≠ 27 + 8 * t + 4 → k ≠ 27 + 8 * t + 6 → M' k = M k) ∧ (∀ i, i < 4 ∨ i = 5 ∨ i = 6 ∨ 12 < i → M' 61 i = M 61 i) ∧ (∀ i, i ≠ 3 → i ≠ 5 → M' (27 + 8 * t) i = M (27 + 8 * t) i) ∧ M' 61 4 = -1 ∧ M' (27 + 8 * t) 3 = M (27 + 8 * t) 3 + 1 ∧ M' (27 + 8 * t) 5 = x ∧ M' (27 + 8 * t + 6) = mU (M (27 + 8 * t + 6)) w x
theorem c_close {d t : Nat} {M : mM} {K : mQ} (ht : t < 4) (h3 : M 61 3 = ((27 + 8 * t : Nat) : Int)) (hc : 0 ≤ M (27 + 8 * t) 3 ∧ M (27 + 8 * t) 3 < 24) : mCall (d + 1) 53 [vr 61] M K = K none (upC (upC M (27 + 8 * t) (mU (M (27 + 8 * t)) 3 (M (27 + 8 * t) 3 + 1))) 61 (mU (M 61) 4 (-1))) := by
  rcases (show t = 0 ∨ t = 1 ∨ t = 2 ∨ t = 3 by omega) with rfl | rfl | rfl | rfl
  · replace h3 : M 61 3 = 27 := h3
    replace hc : 0 ≤ M 27 3 ∧ M 27 3 < 24 := hc
    simp (disch := first | decide | omega) only [b53, w53_0, w53_1, w53_4, w53_5, w53_8, w53_9, w53_10, w53_13, w53_14, w53_15, w53_18, tc61, tr61_2, tr61_6, ta62, tn62, tc27, tr27_0, tr27_1, tr27_2, tr27_4, tr27_6, tr27_7, tr27_8, ta28, tn28, ta29, tn29, ta30, tn30, ta31, tn31, ta32, tn32, ta33, tn33, ta34, tn34, xLoad_i, xLoad_l, xLoad_r, xInc_s, xBr_t, xBr_f, xNz_s, xGf_s, xPf_s, xPz_s, xLd_2, xLd_7, xLd_10, xLdb_3, xLdb_5, xLdb_9, xLdl_4, xLdr_6, xSt_2, xStl_4, xStb_3, xStb_5, xLen_s, xLen_10, xCpy_s, xIv_s, xMx_s, mCont_s, mCont_n, w32_s, w64_s, upC_e, upC_n, upC_u, upC_c, mEn_c, mEn_n, mcw_i, mcw_l, mcw_r, mcat_n, mcat_i, mcat_l, mcat_r, xlong_i, xlong_l, xlong_r, xlong_n, s1_at, s2_at, ↓reduceIte, reduceCtorEq, and_self, true_and, and_true, false_and, and_false, Bool.false_eq_true, ne_eq, not_true_eq_false, not_false_eq_true, or_true, true_or, or_false, false_or, or_self, Int.tmod_eq_emod_of_nonneg, Int.tdiv_eq_ediv_of_nonneg, Classical.not_not, xSw, rOK, b2i_ok, b2i_0, b2i_1, Nat.reduceAdd, Nat.reduceSub, Nat.reduceMul, Nat.reduceEqDiff, Nat.reduceLeDiff, Nat.reduceLT, Int.reduceAdd, Int.reduceSub, Int.reduceMul, Int.reduceNeg, Int.reduceEq, Int.reduceNe, Int.reduceLT, Int.reduceLE, Int.reduceToNat, Int.reduceTDiv, Int.reduceTMod, b2i_em, h3]
  · replace h3 : M 61 3 = 35 := h3
    replace hc : 0 ≤ M 35 3 ∧ M 35 3 < 24 := hc
    simp (disch := first | decide | omega) only [b53, w53_0, w53_1, w53_4, w53_5, w53_8, w53_9, w53_10, w53_13, w53_14, w53_15, w53_18, tc61, tr61_2, tr61_6, ta62, tn62, tc35, tr35_0, tr35_1, tr35_2, tr35_4, tr35_6, tr35_7, tr35_8, ta36, tn36, ta37, tn37, ta38, tn38, ta39, tn39, ta40, tn40, ta41, tn41, ta42, tn42, xLoad_i, xLoad_l, xLoad_r, xInc_s, xBr_t, xBr_f, xNz_s, xGf_s, xPf_s, xPz_s, xLd_2, xLd_7, xLd_10, xLdb_3, xLdb_5, xLdb_9, xLdl_4, xLdr_6, xSt_2, xStl_4, xStb_3, xStb_5, xLen_s, xLen_10, xCpy_s, xIv_s, xMx_s, mCont_s, mCont_n, w32_s, w64_s, upC_e, upC_n, upC_u, upC_c, mEn_c, mEn_n, mcw_i, mcw_l, mcw_r, mcat_n, mcat_i, mcat_l, mcat_r, xlong_i, xlong_l, xlong_r, xlong_n, s1_at, s2_at, ↓reduceIte, reduceCtorEq, and_self, true_and, and_true, false_and, and_false, Bool.false_eq_true, ne_eq, not_true_eq_false, not_false_eq_true, or_true, true_or, or_false, false_or, or_self, Int.tmod_eq_emod_of_nonneg, Int.tdiv_eq_ediv_of_nonneg, Classical.not_not, xSw, rOK, b2i_ok, b2i_0, b2i_1, Nat.reduceAdd, Nat.reduceSub, Nat.reduceMul, Nat.reduceEqDiff, Nat.reduceLeDiff, Nat.reduceLT, Int.reduceAdd, Int.reduceSub, Int.reduceMul, Int.reduceNeg, Int.reduceEq, Int.reduceNe, Int.reduceLT, Int.reduceLE, Int.reduceToNat, Int.reduceTDiv, Int.reduceTMod, b2i_em, h3]
  · replace h3 : M 61 3 = 43 := h3
    replace hc : 0 ≤ M 43 3 ∧ M 43 3 < 24 := hc
    simp (disch := first | decide | omega) only [b53, w53_0, w53_1, w53_4, w53_5, w53_8, w53_9, w53_10, w53_13, w53_14, w53_15, w53_18, tc61, tr61_2, tr61_6, ta62, tn62, tc43, tr43_0, tr43_1, tr43_2, tr43_4, tr43_6, tr43_7, tr43_8, ta44, tn44, ta45, tn45, ta46, tn46, ta47, tn47, ta48, tn48, ta49, tn49, ta50, tn50, xLoad_i, xLoad_l, xLoad_r, xInc_s, xBr_t, xBr_f, xNz_s, xGf_s, xPf_s, xPz_s, xLd_2, xLd_7, xLd_10, xLdb_3, xLdb_5, xLdb_9, xLdl_4, xLdr_6, xSt_2, xStl_4, xStb_3, xStb_5, xLen_s, xLen_10, xCpy_s, xIv_s, xMx_s, mCont_s, mCont_n, w32_s, w64_s, upC_e, upC_n, upC_u, upC_c, mEn_c, mEn_n, mcw_i, mcw_l, mcw_r, mcat_n, mcat_i, mcat_l, mcat_r, xlong_i, xlong_l, xlong_r, xlong_n, s1_at, s2_at, ↓reduceIte, reduceCtorEq, and_self, true_and, and_true, false_and, and_false, Bool.false_eq_true, ne_eq, not_true_eq_false, not_false_eq_true, or_true, true_or, or_false, false_or, or_self, Int.tmod_eq_emod_of_nonneg, Int.tdiv_eq_ediv_of_nonneg, Classical.not_not, xSw, rOK, b2i_ok, b2i_0, b2i_1, Nat.reduceAdd, Nat.reduceSub, Nat.reduceMul, Nat.reduceEqDiff, Nat.reduceLeDiff, Nat.reduceLT, Int.reduceAdd, Int.reduceSub, Int.reduceMul, Int.reduceNeg, Int.reduceEq, Int.reduceNe, Int.reduceLT, Int.reduceLE, Int.reduceToNat, Int.reduceTDiv, Int.reduceTMod, b2i_em, h3]
  · replace h3 : M 61 3 = 51 := h3
    replace hc : 0 ≤ M 51 3 ∧ M 51 3 < 24 := hc
    simp (disch := first | decide | omega) only [b53, w53_0, w53_1, w53_4, w53_5, w53_8, w53_9, w53_10, w53_13, w53_14, w53_15, w53_18, tc61, tr61_2, tr61_6, ta62, tn62, tc51, tr51_0, tr51_1, tr51_2, tr51_4, tr51_6, tr51_7, tr51_8, ta52, tn52, ta53, tn53, ta54, tn54, ta55, tn55, ta56, tn56, ta57, tn57, ta58, tn58, xLoad_i, xLoad_l, xLoad_r, xInc_s, xBr_t, xBr_f, xNz_s, xGf_s, xPf_s, xPz_s, xLd_2, xLd_7, xLd_10, xLdb_3, xLdb_5, xLdb_9, xLdl_4, xLdr_6, xSt_2, xStl_4, xStb_3, xStb_5, xLen_s, xLen_10, xCpy_s, xIv_s, xMx_s, mCont_s, mCont_n, w32_s, w64_s, upC_e, upC_n, upC_u, upC_c, mEn_c, mEn_n, mcw_i, mcw_l, mcw_r, mcat_n, mcat_i, mcat_l, mcat_r, xlong_i, xlong_l, xlong_r, xlong_n, s1_at, s2_at, ↓reduceIte, reduceCtorEq, and_self, true_and, and_true, false_and, and_false, Bool.false_eq_true, ne_eq, not_true_eq_false, not_false_eq_true, or_true, true_or, or_false, false_or, or_self, Int.tmod_eq_emod_of_nonneg, Int.tdiv_eq_ediv_of_nonneg, Classical.not_not, xSw, rOK, b2i_ok, b2i_0, b2i_1, Nat.reduceAdd, Nat.reduceSub, Nat.reduceMul, Nat.reduceEqDiff, Nat.reduceLeDiff, Nat.reduceLT, Int.reduceAdd, Int.reduceSub, Int.reduceMul, Int.reduceNeg, Int.reduceEq, Int.reduceNe, Int.reduceLT, Int.reduceLE, Int.reduceToNat, Int.reduceTDiv, Int.reduceTMod, b2i_em, h3]
theorem c_stopTail {d t : Nat} {M : mM} {K : mQ} {w x : Int} {lv : mL} (ht : t < 4) (hw : 0 ≤ w ∧ w ≤ 3) (h3 : M 61 3 = ((27 + 8 * t : Nat) : Int)) (h4 : M 61 4 = w) (h5 : M (27 + 8 * t) 5 = x) (hc : 0 ≤ M (27 + 8 * t) 3 ∧ M (27 + 8 * t) 3 < 24) (g0 : lv 0 = some (vr 61)) (hK : ∀ M', fEn t w x M M' → M' 62 = M 62 → M' (27 + 8 * t + 4) = M (27 + 8 * t + 4) → K (some (vi 0)) M') : rn (d + 2) 61 K 26 lv [] M := by
  rcases (show t = 0 ∨ t = 1 ∨ t = 2 ∨ t = 3 by omega) with rfl | rfl | rfl | rfl
  · replace h3 : M 61 3 = 27 := h3
    replace h5 : M 27 5 = x := h5
    replace hc : 0 ≤ M 27 3 ∧ M 27 3 < 24 := hc
    simp (disch := first | decide | omega) only [b61, w61_0, w61_1, w61_4, w61_5, w61_8, w61_9, w61_12, w61_15, w61_16, w61_17, w61_18, w61_20, w61_23, w61_26, w61_27, w61_30, w61_33, w61_34, w61_37, w61_38, w61_41, w61_44, w61_45, w61_46, w61_49, w61_50, tc61, tr61_2, tr61_6, ta62, tn62, tc27, tr27_0, tr27_1, tr27_2, tr27_4, tr27_6, tr27_7, tr27_8, ta28, tn28, ta29, tn29, ta30, tn30, ta31, tn31, ta32, tn32, ta33, tn33, ta34, tn34, xLoad_i, xLoad_l, xLoad_r, xInc_s, xBr_t, xBr_f, xNz_s, xGf_s, xPf_s, xPz_s, xLd_2, xLd_7, xLd_10, xLdb_3, xLdb_5, xLdb_9, xLdl_4, xLdr_6, xSt_2, xStl_4, xStb_3, xStb_5, xLen_s, xLen_10, xCpy_s, xIv_s, xMx_s, mCont_s, mCont_n, w32_s, w64_s, upC_e, upC_n, upC_u, upC_c, mEn_c, mEn_n, mcw_i, mcw_l, mcw_r, mcat_n, mcat_i, mcat_l, mcat_r, xlong_i, xlong_l, xlong_r, xlong_n, s1_at, s2_at, ↓reduceIte, reduceCtorEq, and_self, true_and, and_true, false_and, and_false, Bool.false_eq_true, ne_eq, not_true_eq_false, not_false_eq_true, or_true, true_or, or_false, false_or, or_self, Int.tmod_eq_emod_of_nonneg, Int.tdiv_eq_ediv_of_nonneg, Classical.not_not, xSw, rOK, b2i_ok, b2i_0, b2i_1, Nat.reduceAdd, Nat.reduceSub, Nat.reduceMul, Nat.reduceEqDiff, Nat.reduceLeDiff, Nat.reduceLT, Int.reduceAdd, Int.reduceSub, Int.reduceMul, Int.reduceNeg, Int.reduceEq, Int.reduceNe, Int.reduceLT, Int.reduceLE, Int.reduceToNat, Int.reduceTDiv, Int.reduceTMod, b2i_em, g0, h3, h4, h5]
    rw [c_close (t := 0) (by decide) (by simp (disch := first | decide | omega) only [upC_e, upC_n, mU_e, mU_n]; exact h3) (by simp (disch := first | decide | omega) only [upC_e, upC_n, mU_e, mU_n]; exact hc)]
    simp (disch := first | decide | omega) only [b61, w61_0, w61_1, w61_4, w61_5, w61_8, w61_9, w61_12, w61_15, w61_16, w61_17, w61_18, w61_20, w61_23, w61_26, w61_27, w61_30, w61_33, w61_34, w61_37, w61_38, w61_41, w61_44, w61_45, w61_46, w61_49, w61_50, tc61, tr61_2, tr61_6, ta62, tn62, tc27, tr27_0, tr27_1, tr27_2, tr27_4, tr27_6, tr27_7, tr27_8, ta28, tn28, ta29, tn29, ta30, tn30, ta31, tn31, ta32, tn32, ta33, tn33, ta34, tn34, xLoad_i, xLoad_l, xLoad_r, xInc_s, xBr_t, xBr_f, xNz_s, xGf_s, xPf_s, xPz_s, xLd_2, xLd_7, xLd_10, xLdb_3, xLdb_5, xLdb_9, xLdl_4, xLdr_6, xSt_2, xStl_4, xStb_3, xStb_5, xLen_s, xLen_10, xCpy_s, xIv_s, xMx_s, mCont_s, mCont_n, w32_s, w64_s, upC_e, upC_n, upC_u, upC_c, mEn_c, mEn_n, mcw_i, mcw_l, mcw_r, mcat_n, mcat_i, mcat_l, mcat_r, xlong_i, xlong_l, xlong_r, xlong_n, s1_at, s2_at, ↓reduceIte, reduceCtorEq, and_self, true_and, and_true, false_and, and_false, Bool.false_eq_true, ne_eq, not_true_eq_false, not_false_eq_true, or_true, true_or, or_false, false_or, or_self, Int.tmod_eq_emod_of_nonneg, Int.tdiv_eq_ediv_of_nonneg, Classical.not_not, xSw, rOK, b2i_ok, b2i_0, b2i_1, Nat.reduceAdd, Nat.reduceSub, Nat.reduceMul, Nat.reduceEqDiff, Nat.reduceLeDiff, Nat.reduceLT, Int.reduceAdd, Int.reduceSub, Int.reduceMul, Int.reduceNeg, Int.reduceEq, Int.reduceNe, Int.reduceLT, Int.reduceLE, Int.reduceToNat, Int.reduceTDiv, Int.reduceTMod, b2i_em, g0]
    refine hK _ ⟨fun k a b c e f => ?_, fun i a => ?_, fun i a b => ?_, ?_, ?_, ?_, ?_⟩ ?_ ?_
    all_goals (simp (disch := first | decide | omega) only [upC_e, upC_n, mU_e, mU_n, h5])
  · replace h3 : M 61 3 = 35 := h3
    replace h5 : M 35 5 = x := h5
    replace hc : 0 ≤ M 35 3 ∧ M 35 3 < 24 := hc
    simp (disch := first | decide | omega) only [b61, w61_0, w61_1, w61_4, w61_5, w61_8, w61_9, w61_12, w61_15, w61_16, w61_17, w61_18, w61_20, w61_23, w61_26, w61_27, w61_30, w61_33, w61_34, w61_37, w61_38, w61_41, w61_44, w61_45, w61_46, w61_49, w61_50, tc61, tr61_2, tr61_6, ta62, tn62, tc35, tr35_0, tr35_1, tr35_2, tr35_4, tr35_6, tr35_7, tr35_8, ta36, tn36, ta37, tn37, ta38, tn38, ta39, tn39, ta40, tn40, ta41, tn41, ta42, tn42, xLoad_i, xLoad_l, xLoad_r, xInc_s, xBr_t, xBr_f, xNz_s, xGf_s, xPf_s, xPz_s, xLd_2, xLd_7, xLd_10, xLdb_3, xLdb_5, xLdb_9, xLdl_4, xLdr_6, xSt_2, xStl_4, xStb_3, xStb_5, xLen_s, xLen_10, xCpy_s, xIv_s, xMx_s, mCont_s, mCont_n, w32_s, w64_s, upC_e, upC_n, upC_u, upC_c, mEn_c, mEn_n, mcw_i, mcw_l, mcw_r, mcat_n, mcat_i, mcat_l, mcat_r, xlong_i, xlong_l, xlong_r, xlong_n, s1_at, s2_at, ↓reduceIte, reduceCtorEq, and_self, true_and, and_true, false_and, and_false, Bool.false_eq_true, ne_eq, not_true_eq_false, not_false_eq_true, or_true, true_or, or_false, false_or, or_self, Int.tmod_eq_emod_of_nonneg, Int.tdiv_eq_ediv_of_nonneg, Classical.not_not, xSw, rOK, b2i_ok, b2i_0, b2i_1, Nat.reduceAdd, Nat.reduceSub, Nat.reduceMul, Nat.reduceEqDiff, Nat.reduceLeDiff, Nat.reduceLT, Int.reduceAdd, Int.reduceSub, Int.reduceMul, Int.reduceNeg, Int.reduceEq, Int.reduceNe, Int.reduceLT, Int.reduceLE, Int.reduceToNat, Int.reduceTDiv, Int.reduceTMod, b2i_em, g0, h3, h4, h5]
    rw [c_close (t := 1) (by decide) (by simp (disch := first | decide | omega) only [upC_e, upC_n, mU_e, mU_n]; exact h3) (by simp (disch := first | decide | omega) only [upC_e, upC_n, mU_e, mU_n]; exact hc)]
    simp (disch := first | decide | omega) only [b61, w61_0, w61_1, w61_4, w61_5, w61_8, w61_9, w61_12, w61_15, w61_16, w61_17, w61_18, w61_20, w61_23, w61_26, w61_27, w61_30, w61_33, w61_34, w61_37, w61_38, w61_41, w61_44, w61_45, w61_46, w61_49, w61_50, tc61, tr61_2, tr61_6, ta62, tn62, tc35, tr35_0, tr35_1, tr35_2, tr35_4, tr35_6, tr35_7, tr35_8, ta36, tn36, ta37, tn37, ta38, tn38, ta39, tn39, ta40, tn40, ta41, tn41, ta42, tn42, xLoad_i, xLoad_l, xLoad_r, xInc_s, xBr_t, xBr_f, xNz_s, xGf_s, xPf_s, xPz_s, xLd_2, xLd_7, xLd_10, xLdb_3, xLdb_5, xLdb_9, xLdl_4, xLdr_6, xSt_2, xStl_4, xStb_3, xStb_5, xLen_s, xLen_10, xCpy_s, xIv_s, xMx_s, mCont_s, mCont_n, w32_s, w64_s, upC_e, upC_n, upC_u, upC_c, mEn_c, mEn_n, mcw_i, mcw_l, mcw_r, mcat_n, mcat_i, mcat_l, mcat_r, xlong_i, xlong_l, xlong_r, xlong_n, s1_at, s2_at, ↓reduceIte, reduceCtorEq, and_self, true_and, and_true, false_and, and_false, Bool.false_eq_true, ne_eq, not_true_eq_false, not_false_eq_true, or_true, true_or, or_false, false_or, or_self, Int.tmod_eq_emod_of_nonneg, Int.tdiv_eq_ediv_of_nonneg, Classical.not_not, xSw, rOK, b2i_ok, b2i_0, b2i_1, Nat.reduceAdd, Nat.reduceSub, Nat.reduceMul, Nat.reduceEqDiff, Nat.reduceLeDiff, Nat.reduceLT, Int.reduceAdd, Int.reduceSub, Int.reduceMul, Int.reduceNeg, Int.reduceEq, Int.reduceNe, Int.reduceLT, Int.reduceLE, Int.reduceToNat, Int.reduceTDiv, Int.reduceTMod, b2i_em, g0]
    refine hK _ ⟨fun k a b c e f => ?_, fun i a => ?_, fun i a b => ?_, ?_, ?_, ?_, ?_⟩ ?_ ?_
    all_goals (simp (disch := first | decide | omega) only [upC_e, upC_n, mU_e, mU_n, h5])
  · replace h3 : M 61 3 = 43 := h3
    replace h5 : M 43 5 = x := h5
    replace hc : 0 ≤ M 43 3 ∧ M 43 3 < 24 := hc
    simp (disch := first | decide | omega) only [b61, w61_0, w61_1, w61_4, w61_5, w61_8, w61_9, w61_12, w61_15, w61_16, w61_17, w61_18, w61_20, w61_23, w61_26, w61_27, w61_30, w61_33, w61_34, w61_37, w61_38, w61_41, w61_44, w61_45, w61_46, w61_49, w61_50, tc61, tr61_2, tr61_6, ta62, tn62, tc43, tr43_0, tr43_1, tr43_2, tr43_4, tr43_6, tr43_7, tr43_8, ta44, tn44, ta45, tn45, ta46, tn46, ta47, tn47, ta48, tn48, ta49, tn49, ta50, tn50, xLoad_i, xLoad_l, xLoad_r, xInc_s, xBr_t, xBr_f, xNz_s, xGf_s, xPf_s, xPz_s, xLd_2, xLd_7, xLd_10, xLdb_3, xLdb_5, xLdb_9, xLdl_4, xLdr_6, xSt_2, xStl_4, xStb_3, xStb_5, xLen_s, xLen_10, xCpy_s, xIv_s, xMx_s, mCont_s, mCont_n, w32_s, w64_s, upC_e, upC_n, upC_u, upC_c, mEn_c, mEn_n, mcw_i, mcw_l, mcw_r, mcat_n, mcat_i, mcat_l, mcat_r, xlong_i, xlong_l, xlong_r, xlong_n, s1_at, s2_at, ↓reduceIte, reduceCtorEq, and_self, true_and, and_true, false_and, and_false, Bool.false_eq_true, ne_eq, not_true_eq_false, not_false_eq_true, or_true, true_or, or_false, false_or, or_self, Int.tmod_eq_emod_of_nonneg, Int.tdiv_eq_ediv_of_nonneg, Classical.not_not, xSw, rOK, b2i_ok, b2i_0, b2i_1, Nat.reduceAdd, Nat.reduceSub, Nat.reduceMul, Nat.reduceEqDiff, Nat.reduceLeDiff, Nat.reduceLT, Int.reduceAdd, Int.reduceSub, Int.reduceMul, Int.reduceNeg, Int.reduceEq, Int.reduceNe, Int.reduceLT, Int.reduceLE, Int.reduceToNat, Int.reduceTDiv, Int.reduceTMod, b2i_em, g0, h3, h4, h5]
    rw [c_close (t := 2) (by decide) (by simp (disch := first | decide | omega) only [upC_e, upC_n, mU_e, mU_n]; exact h3) (by simp (disch := first | decide | omega) only [upC_e, upC_n, mU_e, mU_n]; exact hc)]
    simp (disch := first | decide | omega) only [b61, w61_0, w61_1, w61_4, w61_5, w61_8, w61_9, w61_12, w61_15, w61_16, w61_17, w61_18, w61_20, w61_23, w61_26, w61_27, w61_30, w61_33, w61_34, w61_37, w61_38, w61_41, w61_44, w61_45, w61_46, w61_49, w61_50, tc61, tr61_2, tr61_6, ta62, tn62, tc43, tr43_0, tr43_1, tr43_2, tr43_4, tr43_6, tr43_7, tr43_8, ta44, tn44, ta45, tn45, ta46, tn46, ta47, tn47, ta48, tn48, ta49, tn49, ta50, tn50, xLoad_i, xLoad_l, xLoad_r, xInc_s, xBr_t, xBr_f, xNz_s, xGf_s, xPf_s, xPz_s, xLd_2, xLd_7, xLd_10, xLdb_3, xLdb_5, xLdb_9, xLdl_4, xLdr_6, xSt_2, xStl_4, xStb_3, xStb_5, xLen_s, xLen_10, xCpy_s, xIv_s, xMx_s, mCont_s, mCont_n, w32_s, w64_s, upC_e, upC_n, upC_u, upC_c, mEn_c, mEn_n, mcw_i, mcw_l, mcw_r, mcat_n, mcat_i, mcat_l, mcat_r, xlong_i, xlong_l, xlong_r, xlong_n, s1_at, s2_at, ↓reduceIte, reduceCtorEq, and_self, true_and, and_true, false_and, and_false, Bool.false_eq_true, ne_eq, not_true_eq_false, not_false_eq_true, or_true, true_or, or_false, false_or, or_self, Int.tmod_eq_emod_of_nonneg, Int.tdiv_eq_ediv_of_nonneg, Classical.not_not, xSw, rOK, b2i_ok, b2i_0, b2i_1, Nat.reduceAdd, Nat.reduceSub, Nat.reduceMul, Nat.reduceEqDiff, Nat.reduceLeDiff, Nat.reduceLT, Int.reduceAdd, Int.reduceSub, Int.reduceMul, Int.reduceNeg, Int.reduceEq, Int.reduceNe, Int.reduceLT, Int.reduceLE, Int.reduceToNat, Int.reduceTDiv, Int.reduceTMod, b2i_em, g0]
    refine hK _ ⟨fun k a b c e f => ?_, fun i a => ?_, fun i a b => ?_, ?_, ?_, ?_, ?_⟩ ?_ ?_
    all_goals (simp (disch := first | decide | omega) only [upC_e, upC_n, mU_e, mU_n, h5])
  · replace h3 : M 61 3 = 51 := h3
    replace h5 : M 51 5 = x := h5
    replace hc : 0 ≤ M 51 3 ∧ M 51 3 < 24 := hc
    simp (disch := first | decide | omega) only [b61, w61_0, w61_1, w61_4, w61_5, w61_8, w61_9, w61_12, w61_15, w61_16, w61_17, w61_18, w61_20, w61_23, w61_26, w61_27, w61_30, w61_33, w61_34, w61_37, w61_38, w61_41, w61_44, w61_45, w61_46, w61_49, w61_50, tc61, tr61_2, tr61_6, ta62, tn62, tc51, tr51_0, tr51_1, tr51_2, tr51_4, tr51_6, tr51_7, tr51_8, ta52, tn52, ta53, tn53, ta54, tn54, ta55, tn55, ta56, tn56, ta57, tn57, ta58, tn58, xLoad_i, xLoad_l, xLoad_r, xInc_s, xBr_t, xBr_f, xNz_s, xGf_s, xPf_s, xPz_s, xLd_2, xLd_7, xLd_10, xLdb_3, xLdb_5, xLdb_9, xLdl_4, xLdr_6, xSt_2, xStl_4, xStb_3, xStb_5, xLen_s, xLen_10, xCpy_s, xIv_s, xMx_s, mCont_s, mCont_n, w32_s, w64_s, upC_e, upC_n, upC_u, upC_c, mEn_c, mEn_n, mcw_i, mcw_l, mcw_r, mcat_n, mcat_i, mcat_l, mcat_r, xlong_i, xlong_l, xlong_r, xlong_n, s1_at, s2_at, ↓reduceIte, reduceCtorEq, and_self, true_and, and_true, false_and, and_false, Bool.false_eq_true, ne_eq, not_true_eq_false, not_false_eq_true, or_true, true_or, or_false, false_or, or_self, Int.tmod_eq_emod_of_nonneg, Int.tdiv_eq_ediv_of_nonneg, Classical.not_not, xSw, rOK, b2i_ok, b2i_0, b2i_1, Nat.reduceAdd, Nat.reduceSub, Nat.reduceMul, Nat.reduceEqDiff, Nat.reduceLeDiff, Nat.reduceLT, Int.reduceAdd, Int.reduceSub, Int.reduceMul, Int.reduceNeg, Int.reduceEq, Int.reduceNe, Int.reduceLT, Int.reduceLE, Int.reduceToNat, Int.reduceTDiv, Int.reduceTMod, b2i_em, g0, h3, h4, h5]
    rw [c_close (t := 3) (by decide) (by simp (disch := first | decide | omega) only [upC_e, upC_n, mU_e, mU_n]; exact h3) (by simp (disch := first | decide | omega) only [upC_e, upC_n, mU_e, mU_n]; exact hc)]
    simp (disch := first | decide | omega) only [b61, w61_0, w61_1, w61_4, w61_5, w61_8, w61_9, w61_12, w61_15, w61_16, w61_17, w61_18, w61_20, w61_23, w61_26, w61_27, w61_30, w61_33, w61_34, w61_37, w61_38, w61_41, w61_44, w61_45, w61_46, w61_49, w61_50, tc61, tr61_2, tr61_6, ta62, tn62, tc51, tr51_0, tr51_1, tr51_2, tr51_4, tr51_6, tr51_7, tr51_8, ta52, tn52, ta53, tn53, ta54, tn54, ta55, tn55, ta56, tn56, ta57, tn57, ta58, tn58, xLoad_i, xLoad_l, xLoad_r, xInc_s, xBr_t, xBr_f, xNz_s, xGf_s, xPf_s, xPz_s, xLd_2, xLd_7, xLd_10, xLdb_3, xLdb_5, xLdb_9, xLdl_4, xLdr_6, xSt_2, xStl_4, xStb_3, xStb_5, xLen_s, xLen_10, xCpy_s, xIv_s, xMx_s, mCont_s, mCont_n, w32_s, w64_s, upC_e, upC_n, upC_u, upC_c, mEn_c, mEn_n, mcw_i, mcw_l, mcw_r, mcat_n, mcat_i, mcat_l, mcat_r, xlong_i, xlong_l, xlong_r, xlong_n, s1_at, s2_at, ↓reduceIte, reduceCtorEq, and_self, true_and, and_true, false_and, and_false, Bool.false_eq_true, ne_eq, not_true_eq_false, not_false_eq_true, or_true, true_or, or_false, false_or, or_self, Int.tmod_eq_emod_of_nonneg, Int.tdiv_eq_ediv_of_nonneg, Classical.not_not, xSw, rOK, b2i_ok, b2i_0, b2i_1, Nat.reduceAdd, Nat.reduceSub, Nat.reduceMul, Nat.reduceEqDiff, Nat.reduceLeDiff, Nat.reduceLT, Int.reduceAdd, Int.reduceSub, Int.reduceMul, Int.reduceNeg, Int.reduceEq, Int.reduceNe, Int.reduceLT, Int.reduceLE, Int.reduceToNat, Int.reduceTDiv, Int.reduceTMod, b2i_em, g0]
    refine hK _ ⟨fun k a b c e f => ?_, fun i a => ?_, fun i a b => ?_, ?_, ?_, ?_, ?_⟩ ?_ ?_
    all_goals (simp (disch := first | decide | omega) only [upC_e, upC_n, mU_e, mU_n, h5])
theorem dr_hd {r y : Int} {l : List Int} : ∀ ws : List Int, drW r ws = y :: l → rk y < r
  | [], h => by cases h
  | x :: ws, h => by
    unfold drW at h
    rw [List.dropWhile_cons] at h
    split at h
    · exact dr_hd ws h
    · rename_i c
      injection h with h1 h2
      subst h1
      have c' : ¬ r ≤ rk x := fun e => c (decide_eq_true e)
      omega
theorem tk_mem {r y : Int} : ∀ {ws : List Int}, y ∈ tkW r ws → r ≤ rk y ∧ y ∈ ws
  | [], h => by cases h
  | x :: ws, h => by
    unfold tkW at h
    rw [List.takeWhile_cons] at h
    split at h
    · rename_i c
      rcases List.mem_cons.mp h with q | q
      · rw [q]
        exact ⟨of_decide_eq_true c, List.mem_cons_self ..⟩
      · obtain ⟨a, b⟩ := tk_mem (ws := ws) q
        exact ⟨a, List.mem_cons_of_mem _ b⟩
    · cases h
theorem dr_mem {r y : Int} {l ws : List Int} (h : drW r ws = y :: l) : y ∈ ws := by
  rw [← tk_dr r ws, h]
  exact List.mem_append_right _ (List.mem_cons_self ..)
theorem rk_R {x : Int} (h : isR x) : rk x = 4 ∧ isWt x ∧ x ≠ 39 := by
  unfold isR at h
  rcases (show x = 28 ∨ x = 29 ∨ x = 30 ∨ x = 31 ∨ x = 32 ∨ x = 33 by omega) with rfl | rfl | rfl | rfl | rfl | rfl <;> (unfold isWt; decide)
theorem fl_nts (bs : List Int) : ∀ n : Nat, fl (nts n [(1, bs)]) = List.replicate n 14 ++ bs
  | 0 => by
    show bs ++ ([] ++ []) = bs
    rw [List.append_nil, List.append_nil]
  | n + 1 => by
    have ih := fl_nts bs n
    show [] ++ ([14] ++ fl (nts n [(1, bs)])) = _
    rw [ih]
    rfl
theorem hd_nts {bs : List Int} (hb : bw bs) : ∀ (n : Nat) (b : Int) (R : List Int), List.replicate n 14 ++ bs = b :: R → isWt b ∧ rk b < 4
  | 0, b, R, h => by
    replace h : bs = b :: R := h
    rcases hb with rfl | rfl | rfl | rfl
    · cases h
    · injection h with h1 h2
      subst h1
      unfold isWt
      decide
    · injection h with h1 h2
      subst h1
      unfold isWt
      decide
    · injection h with h1 h2
      subst h1
      unfold isWt
      decide
  | n + 1, b, R, h => by
    replace h : 14 :: (List.replicate n 14 ++ bs) = b :: R := h
    injection h with h1 h2
    subst h1
    unfold isWt
    decide
theorem hB_ar {k : Int} {ws R0 : List Int} (hw : aw ws) (hk : 34 ≤ k ∧ k ≤ 38) (h0 : ∀ b R, R0 = b :: R → isWt b ∧ rk b < 5) : ∀ b R, drW (rk k) ws ++ R0 = b :: R → isWt b ∧ rk b < rk k := fun b R h => by
  have k5 : 5 ≤ rk k := by
    by_cases c : k = 34 ∨ k = 35
    · have := rk_ar.1 c; omega
    · have := rk_ar.2 (show k = 36 ∨ k = 37 ∨ k = 38 by omega); omega
  cases hd : drW (rk k) ws with
  | nil =>
    rw [hd, List.nil_append] at h
    have := h0 b R h
    exact ⟨this.1, by omega⟩
  | cons y l =>
    rw [hd, List.cons_append] at h
    injection h with h1 h2
    subst h1
    have := (aw_2 hw).2 y (dr_mem hd)
    exact ⟨by unfold isWt; omega, dr_hd _ hd⟩
theorem hA_ar {k : Int} {ws : List Int} (hw : aw ws) : ∀ y ∈ tkW k ws, isWt y ∧ y ≠ 39 ∧ k ≤ rk y := fun y hy => by
  obtain ⟨a, b⟩ := tk_mem hy
  have := (aw_2 hw).2 y b
  exact ⟨by unfold isWt; omega, by omega, a⟩
theorem rk_ws {y : Int} {ws : List Int} (hw : aw ws) (h : y ∈ ws) : isWt y ∧ y ≠ 39 ∧ 5 ≤ rk y ∧ y ≠ 45 ∧ y ≠ 14 := by
  have := (aw_2 hw).2 y h
  refine ⟨by unfold isWt; omega, by omega, ?_, by omega, by omega⟩
  by_cases c : y = 34 ∨ y = 35
  · have := rk_ar.1 c; omega
  · have := rk_ar.2 (show y = 36 ∨ y = 37 ∨ y = 38 by omega); omega
theorem fl_len2 {x : Int} {ws : List Int} {G : FR} : fl ((x, ws) :: G) = ws ++ (sy x ++ fl G) := rfl
theorem ngs_app : ∀ A B : List Int, ngs (A ++ B) = ngs A + ngs B
  | [], B => by
    show ngs B = 0 + ngs B
    omega
  | k :: A, B => by
    have ih := ngs_app A B
    show (if k = 45 ∨ k = 14 then 1 else 0) + ngs (A ++ B) = (if k = 45 ∨ k = 14 then 1 else 0) + ngs A + ngs B
    rw [ih]
    omega
theorem ngs_14 : ∀ n : Nat, ngs (List.replicate n 14) = n
  | 0 => rfl
  | n + 1 => by
    have ih := ngs_14 n
    rw [List.replicate_succ]
    show (if (14 : Int) = 45 ∨ (14 : Int) = 14 then 1 else 0) + ngs (List.replicate n 14) = _
    rw [if_pos (by decide), ih]
    omega
theorem R_fl {x : Int} {ws bs V U : List Int} {n : Nat} (hx : isR x) (ha : aw ws) (hb : bw bs) (e : bs = V ++ U) : fl ((x, ws) :: nts n [(1, bs)]) = (ws ++ (x :: (List.replicate n 14 ++ V))) ++ U ∧ (∀ y ∈ ws ++ (x :: (List.replicate n 14 ++ V)), isWt y ∧ y ≠ 39 ∧ (y ∈ V ∨ 3 ≤ rk y)) ∧ ngs (ws ++ (x :: (List.replicate n 14 ++ V))) = n := by
  have hs : sy x = [x] := if_neg (by unfold isR at hx; omega)
  have hxr := rk_R hx
  have hV : ∀ y ∈ V, y = 12 ∨ y = 13 := fun y hy => (bw_2 hb).2 y (by rw [e]; exact List.mem_append_left _ hy)
  refine ⟨?_, fun y hy => ?_, ?_⟩
  · rw [fl_len2, hs, fl_nts, e]
    simp
  · rcases List.mem_append.mp hy with q | q
    · have := rk_ws ha q
      exact ⟨this.1, this.2.1, Or.inr (by omega)⟩
    · rcases List.mem_cons.mp q with q | q
      · rw [q]
        exact ⟨hxr.2.1, hxr.2.2, Or.inr (by omega)⟩
      · rcases List.mem_append.mp q with q | q
        · obtain ⟨-, rfl⟩ := List.mem_replicate.mp q
          unfold isWt
          exact ⟨by decide, by decide, Or.inr (by decide)⟩
        · have := hV y q
          exact ⟨by unfold isWt; omega, by omega, Or.inl q⟩
  · rw [ngs_app, ngs_n ws (fun y hy => ⟨(rk_ws ha hy).2.2.2.1, (rk_ws ha hy).2.2.2.2⟩)]
    show 0 + ((if x = 45 ∨ x = 14 then 1 else 0) + ngs (List.replicate n 14 ++ V)) = _
    rw [if_neg (by unfold isR at hx; omega), ngs_app, ngs_14, ngs_n V (fun y hy => by have := hV y hy; omega)]
    omega
