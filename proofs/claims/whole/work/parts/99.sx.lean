/-! text: the class takes a name or an opening -/
theorem sy_len {x : Int} : (sy x).length ≤ 1 := by
  unfold sy
  split <;> simp
theorem fl_len {tn : Bool} : ∀ F : FR, okF tn F → (fl F).length ≤ 3 * F.length
  | [], h => h.elim
  | [(x, ws)], h => by
    have h2 := (okF_2 h).1
    have h3 := sy_len (x := x)
    show (ws ++ (sy x ++ [])).length ≤ 3 * 1
    rw [List.append_nil, List.length_append]
    omega
  | (x, ws) :: (y, us) :: F, h => by
    have ih := fl_len ((y, us) :: F) h.1
    have h2 := (okF_2 h).1
    have h3 := sy_len (x := x)
    show (ws ++ (sy x ++ fl ((y, us) :: F))).length ≤ 3 * (((y, us) :: F).length + 1)
    rw [List.length_append, List.length_append]
    omega
theorem nTk_n {k : Int} (h : isNm k) : enc (401, nNo k) = 10000 + k := by
  unfold isNm at h
  rcases (show k = 5 ∨ k = 8 ∨ k = 15 ∨ k = 16 ∨ k = 17 ∨ k = 18 ∨ k = 19 ∨ k = 20 ∨ k = 21 ∨ k = 22 ∨ k = 23 ∨ k = 24 ∨ k = 25 ∨ k = 26 ∨ k = 27 by omega) with rfl | rfl | rfl | rfl | rfl | rfl | rfl | rfl | rfl | rfl | rfl | rfl | rfl | rfl | rfl <;> rfl
set_option maxHeartbeats 1000000 in
theorem c_takeName {d t : Nat} {M : mM} {K : mQ} {w i0 N k v : Int} {F : FR} {L : List (Int × Int)} {aA : Bool} (ht : t < 4) (hw : 0 ≤ w ∧ w ≤ 3) (h : okM2 (decide (w = 1)) F true aA) (hC : CLs t M w i0 N F L true aA) (hN : N < 300) (hk : isNm k) (hS : ∀ F' L' w1' aA' M', LSt w F L true aA k v F' L' w1' aA' → fLw t M M' → CLs t M' w i0 (N + 1) F' L' w1' aA' → K (some (vi 0)) M') (hFt : ∀ fa, LFt w F true aA k v fa → K (some (vi fa)) M) : mCall (d + 3) 56 [vr 61, vi k] M K := by
  have hC0 := hC
  obtain ⟨g, Lc, h0, hL, a3, a4, as, a7, a8, a9, a10, a11, a12, a5, ac, ai, aN, aD⟩ := hC0
  obtain rfl := h0 rfl
  have hLc : L = Lc := by rw [hL]; exact List.append_nil Lc
  subst hLc
  have hcl := clo_sc ht
  have k42 : ¬ k = 42 := by unfold isNm at hk; omega
  have kR : 0 ≤ k ∧ k ≤ 27 := by unfold isNm at hk; omega
  have w1 := fun (d : Nat) (M : mM) (K : mQ) => c_isNm1 (d := d) (M := M) (K := K) hk
  have hof := fun (d : Nat) (K : mQ) => c_isOf (d := d) (K := K) a4 hw hk
  by_cases c : okN w (nNo k)
  · have w2 := fun (d : Nat) (K : mQ) => (hof d K).1 c
    clear hof
    simp (disch := first | decide | omega) only [b56, w56_0, w56_1, w56_3, w56_6, w56_7, w56_10, w56_13, w56_16, w56_19, w56_20, w56_21, w56_22, w56_25, w56_26, w56_29, w56_32, w56_35, w56_36, w56_39, w56_40, w56_41, w56_42, w56_45, w56_48, w56_49, w56_50, w56_53, w56_56, w56_57, w56_58, w56_59, w56_62, w56_65, w56_66, w56_67, w56_70, w56_71, w56_74, w56_75, w56_76, w56_77, w56_78, w56_81, tc61, tr61_2, tr61_6, ta62, tn62, xLoad_i, xLoad_l, xLoad_r, xInc_s, xBr_t, xBr_f, xNz_s, xGf_s, xPf_s, xPz_s, xLd_2, xLd_7, xLd_10, xLdb_3, xLdb_5, xLdb_9, xLdl_4, xLdr_6, xSt_2, xStl_4, xStb_3, xStb_5, xLen_s, xLen_10, xCpy_s, xIv_s, xMx_s, mCont_s, mCont_n, w32_s, w64_s, upC_e, upC_n, upC_u, upC_c, mEn_c, mEn_n, mcw_i, mcw_l, mcw_r, mcat_n, mcat_i, mcat_l, mcat_r, xlong_i, xlong_l, xlong_r, xlong_n, s1_at, s2_at, ↓reduceIte, reduceCtorEq, and_self, true_and, and_true, false_and, and_false, Bool.false_eq_true, ne_eq, not_true_eq_false, not_false_eq_true, or_true, true_or, or_false, false_or, or_self, Int.tmod_eq_emod_of_nonneg, Int.tdiv_eq_ediv_of_nonneg, Classical.not_not, xSw, rOK, b2i_ok, b2i_0, b2i_1, Nat.reduceAdd, Nat.reduceSub, Nat.reduceMul, Nat.reduceEqDiff, Nat.reduceLeDiff, Nat.reduceLT, Int.reduceAdd, Int.reduceSub, Int.reduceMul, Int.reduceNeg, Int.reduceEq, Int.reduceNe, Int.reduceLT, Int.reduceLE, Int.reduceToNat, Int.reduceTDiv, Int.reduceTMod, b2i_em, k42, w1, w2, a3, Int.toNat_natCast, hcl]
    rw [c_write ht a5 ⟨by omega, by omega⟩]
    simp (disch := first | decide | omega) only [b56, w56_0, w56_1, w56_3, w56_6, w56_7, w56_10, w56_13, w56_16, w56_19, w56_20, w56_21, w56_22, w56_25, w56_26, w56_29, w56_32, w56_35, w56_36, w56_39, w56_40, w56_41, w56_42, w56_45, w56_48, w56_49, w56_50, w56_53, w56_56, w56_57, w56_58, w56_59, w56_62, w56_65, w56_66, w56_67, w56_70, w56_71, w56_74, w56_75, w56_76, w56_77, w56_78, w56_81, tc61, tr61_2, tr61_6, ta62, tn62, xLoad_i, xLoad_l, xLoad_r, xInc_s, xBr_t, xBr_f, xNz_s, xGf_s, xPf_s, xPz_s, xLd_2, xLd_7, xLd_10, xLdb_3, xLdb_5, xLdb_9, xLdl_4, xLdr_6, xSt_2, xStl_4, xStb_3, xStb_5, xLen_s, xLen_10, xCpy_s, xIv_s, xMx_s, mCont_s, mCont_n, w32_s, w64_s, upC_e, upC_n, upC_u, upC_c, mEn_c, mEn_n, mcw_i, mcw_l, mcw_r, mcat_n, mcat_i, mcat_l, mcat_r, xlong_i, xlong_l, xlong_r, xlong_n, s1_at, s2_at, ↓reduceIte, reduceCtorEq, and_self, true_and, and_true, false_and, and_false, Bool.false_eq_true, ne_eq, not_true_eq_false, not_false_eq_true, or_true, true_or, or_false, false_or, or_self, Int.tmod_eq_emod_of_nonneg, Int.tdiv_eq_ediv_of_nonneg, Classical.not_not, xSw, rOK, b2i_ok, b2i_0, b2i_1, Nat.reduceAdd, Nat.reduceSub, Nat.reduceMul, Nat.reduceEqDiff, Nat.reduceLeDiff, Nat.reduceLT, Int.reduceAdd, Int.reduceSub, Int.reduceMul, Int.reduceNeg, Int.reduceEq, Int.reduceNe, Int.reduceLT, Int.reduceLE, Int.reduceToNat, Int.reduceTDiv, Int.reduceTMod, b2i_em, c_endOne]
    refine hS _ _ _ _ _ (Or.inr (Or.inl ⟨rfl, hk, c, rfl, rfl, rfl, rfl⟩)) ?_ ?_
    · refine ⟨fun k b1 b2 b3 b4 => ?_, fun i b1 => ?_, fun i b1 => ?_⟩
      all_goals (simp (disch := first | decide | omega) only [upC_e, upC_n, mU_e, mU_n])
    · refine CLs_one ht h hC ⟨fun k b1 b2 b3 b4 => ?_, fun i b1 => ?_, fun i b1 => ?_⟩ ?_ (fun i b1 b2 => ?_) ?_ ?_ ?_ ?_
      any_goals (simp (disch := first | decide | omega) only [upC_e, upC_n, mU_e, mU_n]; done)
      · simp (disch := first | decide | omega) only [upC_e, upC_n, mU_e, mU_n]
        rw [a5]
      · rw [nTk_n hk]
        simp (disch := first | decide | omega) only [upC_e, upC_n, mU_e, mU_n]
        rw [a5]
  · have w2 := fun (d : Nat) (K : mQ) => (hof d K).2 c
    clear hof
    have hr := hFt 5 (Or.inr (Or.inl ⟨rfl, hk, c, rfl⟩))
    simp (disch := first | decide | omega) only [b56, w56_0, w56_1, w56_3, w56_6, w56_7, w56_10, w56_13, w56_16, w56_19, w56_20, w56_21, w56_22, w56_25, w56_26, w56_29, w56_32, w56_35, w56_36, w56_39, w56_40, w56_41, w56_42, w56_45, w56_48, w56_49, w56_50, w56_53, w56_56, w56_57, w56_58, w56_59, w56_62, w56_65, w56_66, w56_67, w56_70, w56_71, w56_74, w56_75, w56_76, w56_77, w56_78, w56_81, tc61, tr61_2, tr61_6, ta62, tn62, xLoad_i, xLoad_l, xLoad_r, xInc_s, xBr_t, xBr_f, xNz_s, xGf_s, xPf_s, xPz_s, xLd_2, xLd_7, xLd_10, xLdb_3, xLdb_5, xLdb_9, xLdl_4, xLdr_6, xSt_2, xStl_4, xStb_3, xStb_5, xLen_s, xLen_10, xCpy_s, xIv_s, xMx_s, mCont_s, mCont_n, w32_s, w64_s, upC_e, upC_n, upC_u, upC_c, mEn_c, mEn_n, mcw_i, mcw_l, mcw_r, mcat_n, mcat_i, mcat_l, mcat_r, xlong_i, xlong_l, xlong_r, xlong_n, s1_at, s2_at, ↓reduceIte, reduceCtorEq, and_self, true_and, and_true, false_and, and_false, Bool.false_eq_true, ne_eq, not_true_eq_false, not_false_eq_true, or_true, true_or, or_false, false_or, or_self, Int.tmod_eq_emod_of_nonneg, Int.tdiv_eq_ediv_of_nonneg, Classical.not_not, xSw, rOK, b2i_ok, b2i_0, b2i_1, Nat.reduceAdd, Nat.reduceSub, Nat.reduceMul, Nat.reduceEqDiff, Nat.reduceLeDiff, Nat.reduceLT, Int.reduceAdd, Int.reduceSub, Int.reduceMul, Int.reduceNeg, Int.reduceEq, Int.reduceNe, Int.reduceLT, Int.reduceLE, Int.reduceToNat, Int.reduceTDiv, Int.reduceTMod, b2i_em, k42, w1, w2]
    exact hr
/-- one more opened -/
theorem CLs_push {t : Nat} {M M' : mM} {w i0 N k : Int} {F F' : FR} {L : List (Int × Int)} {aA aA' : Bool} (ht : t < 4) (hd8 : dep F < 8) (hC : CLs t M w i0 N F L true aA) (hf : fLw t M M') (h62 : M' 62 = mU (M 62) (fl F).length k) (h3 : ∀ i, i ≤ 6 ∨ i = 10 ∨ i = 12 → M' 61 i = M 61 i) (h7 : M' 61 7 = M 61 7 + 1) (h8 : M' 61 8 = M 61 8 + 1) (h9 : M' 61 9 = par F') (h11 : M' 61 11 = b01 aA') (h5 : M' (27 + 8 * t) = M (27 + 8 * t)) (hc : M' (27 + 8 * t + 4) = M (27 + 8 * t + 4)) (e1 : fl F' = k :: fl F) (e2 : dep F' = dep F + 1) (e3 : cmF F' = cmF F) : CLs t M' w i0 (N + 1) F' L true aA' := by
  obtain ⟨g, Lc, h0, hL, a3, a4, as, a7, a8, a9, a10, a11, a12, a5, ac, ai, aN, aD⟩ := hC
  obtain rfl := h0 rfl
  refine ⟨0, Lc, fun _ => rfl, hL, ?_, ?_, ?_, ?_, ?_, h9, ?_, h11, ?_, ?_, ?_, ai, ?_, by omega⟩
  · rw [h3 3 (by decide)]; exact a3
  · rw [h3 4 (by decide)]; exact a4
  · rw [h62, e1]
    exact ⟨mU_e, (aSt_u (Int.le_refl _)).mpr as⟩
  · rw [h7, a7, e1, List.length_cons]; omega
  · rw [h8, a8, e2]; omega
  · rw [h3 10 (by decide)]; exact a10
  · rw [h3 12 (by decide), a12, e3]
  · rw [h5]; exact a5
  · rw [hc]; exact ac
  · rw [e1, List.length_cons]; omega
