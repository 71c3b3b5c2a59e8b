/-! filling a row of numbers -/
set_option maxHeartbeats 1000000 in
theorem j_fill {d c len : Nat} {M : mM} {K : mQ} {v : Int} (h1 : ak c = 2) (h2 : aln c = len) (h3 : len ≤ 10000) (hc : c ≠ 0) (hK : ∀ M', fr [c] M M' → (∀ i : Nat, i < len → M' c i = v) → K none M') : mCall (d + 1) 300 [vr c, vi v] M K := by
  simp (disch := first | decide | omega) only [b300, w300_0, w300_1, w300_2, w300_3, w300_4, w300_6, w300_7, w300_10, w300_11, w300_12, w300_13, w300_14, w300_17, w300_20, tc1, tr1_0, tr1_1, tr1_2, tr1_3, tr1_4, tr1_5, tr1_6, tr1_7, tr1_8, tr1_9, tr1_10, tr1_11, xLoad_i, xLoad_l, xLoad_r, xInc_s, xBr_t, xBr_f, xNz_s, xGf_s, xPf_s, xPz_s, xLd_2, xLd_7, xLd_10, xLdb_3, xLdb_5, xLdb_9, xLdl_4, xLdr_6, xSt_2, xStl_4, xStb_3, xStb_5, xLen_s, xLen_10, xCpy_s, xIv_s, xMx_s, mCont_s, mCont_n, w32_s, w64_s, upC_e, upC_n, upC_u, upC_c, mEn_c, mEn_n, mcw_i, mcw_l, mcw_r, mcat_n, mcat_i, mcat_l, mcat_r, xlong_i, xlong_l, xlong_r, xlong_n, s1_at, s2_at, ↓reduceIte, reduceCtorEq, and_self, true_and, and_true, false_and, and_false, Bool.false_eq_true, ne_eq, not_true_eq_false, not_false_eq_true, or_true, true_or, or_false, false_or, or_self, Int.tmod_eq_emod_of_nonneg, Int.tdiv_eq_ediv_of_nonneg, Classical.not_not, xSw, rOK, b2i_ok, b2i_0, b2i_1, Nat.reduceAdd, Nat.reduceSub, Nat.reduceMul, Nat.reduceEqDiff, Nat.reduceLeDiff, Nat.reduceLT, Int.reduceAdd, Int.reduceSub, Int.reduceMul, Int.reduceNeg, Int.reduceEq, Int.reduceNe, Int.reduceLT, Int.reduceLE, Int.reduceToNat, Int.reduceTDiv, Int.reduceTMod, b2i_em, h1, h2]
  refine loopL (P := fun k lv M' => fr [c] M M' ∧ (∀ i : Nat, i < k → M' c i = v) ∧ lv 0 = some (vr c) ∧ lv 1 = some (vi v) ∧ lv 2 = some (vi (k : Nat)) ∧ lv 3 = some (vi len)) (G := fun lv M' => rn d 300 K 5 lv [] M') len 0 (Nat.zero_le _) _ _ ⟨fr_refl, fun i hi => absurd hi (by omega), ?_, ?_, ?_, ?_⟩ (fun k hk ih lv M' hI => ?_) (fun lv M' hI => ?_)
  any_goals (simp [s1_at, s2_at, mEn_c, mcw_r, mcw_i, mcw_l, xlong_i, xlong_r, xlong_l, xlong_n]; done)
  · obtain ⟨hf, hq, g0, g1, g2, g3⟩ := hI
    rw [w300_5]
    simp (disch := first | decide | omega) only [b300, w300_0, w300_1, w300_2, w300_3, w300_4, w300_6, w300_7, w300_10, w300_11, w300_12, w300_13, w300_14, w300_17, w300_20, tc1, tr1_0, tr1_1, tr1_2, tr1_3, tr1_4, tr1_5, tr1_6, tr1_7, tr1_8, tr1_9, tr1_10, tr1_11, xLoad_i, xLoad_l, xLoad_r, xInc_s, xBr_t, xBr_f, xNz_s, xGf_s, xPf_s, xPz_s, xLd_2, xLd_7, xLd_10, xLdb_3, xLdb_5, xLdb_9, xLdl_4, xLdr_6, xSt_2, xStl_4, xStb_3, xStb_5, xLen_s, xLen_10, xCpy_s, xIv_s, xMx_s, mCont_s, mCont_n, w32_s, w64_s, upC_e, upC_n, upC_u, upC_c, mEn_c, mEn_n, mcw_i, mcw_l, mcw_r, mcat_n, mcat_i, mcat_l, mcat_r, xlong_i, xlong_l, xlong_r, xlong_n, s1_at, s2_at, ↓reduceIte, reduceCtorEq, and_self, true_and, and_true, false_and, and_false, Bool.false_eq_true, ne_eq, not_true_eq_false, not_false_eq_true, or_true, true_or, or_false, false_or, or_self, Int.tmod_eq_emod_of_nonneg, Int.tdiv_eq_ediv_of_nonneg, Classical.not_not, xSw, rOK, b2i_ok, b2i_0, b2i_1, Nat.reduceAdd, Nat.reduceSub, Nat.reduceMul, Nat.reduceEqDiff, Nat.reduceLeDiff, Nat.reduceLT, Int.reduceAdd, Int.reduceSub, Int.reduceMul, Int.reduceNeg, Int.reduceEq, Int.reduceNe, Int.reduceLT, Int.reduceLE, Int.reduceToNat, Int.reduceTDiv, Int.reduceTMod, b2i_em, g0, g1, g2, g3, h1, h2]
    refine ih _ _ ⟨?_, fun i hi => ?_, ?_, ?_, ?_, ?_⟩
    any_goals (simp [s1_at, s2_at, mEn_c, mcw_r, mcw_i, mcw_l, xlong_i, xlong_r, xlong_l, xlong_n, g0, g1, g2, g3]; done)
    · exact fun a ha => by rw [upC_n (by intro e; exact ha (by rw [e]; exact List.mem_singleton.mpr rfl)), hf a ha]
    · rw [upC_e]
      by_cases e : i = k
      · rw [e, mU_e]
      · rw [mU_n (by omega), hq i (by omega)]
  · obtain ⟨hf, hq, g0, g1, g2, g3⟩ := hI
    have hr := hK M' hf hq
    rw [w300_5]
    simp (disch := first | decide | omega) only [b300, w300_0, w300_1, w300_2, w300_3, w300_4, w300_6, w300_7, w300_10, w300_11, w300_12, w300_13, w300_14, w300_17, w300_20, tc1, tr1_0, tr1_1, tr1_2, tr1_3, tr1_4, tr1_5, tr1_6, tr1_7, tr1_8, tr1_9, tr1_10, tr1_11, xLoad_i, xLoad_l, xLoad_r, xInc_s, xBr_t, xBr_f, xNz_s, xGf_s, xPf_s, xPz_s, xLd_2, xLd_7, xLd_10, xLdb_3, xLdb_5, xLdb_9, xLdl_4, xLdr_6, xSt_2, xStl_4, xStb_3, xStb_5, xLen_s, xLen_10, xCpy_s, xIv_s, xMx_s, mCont_s, mCont_n, w32_s, w64_s, upC_e, upC_n, upC_u, upC_c, mEn_c, mEn_n, mcw_i, mcw_l, mcw_r, mcat_n, mcat_i, mcat_l, mcat_r, xlong_i, xlong_l, xlong_r, xlong_n, s1_at, s2_at, ↓reduceIte, reduceCtorEq, and_self, true_and, and_true, false_and, and_false, Bool.false_eq_true, ne_eq, not_true_eq_false, not_false_eq_true, or_true, true_or, or_false, false_or, or_self, Int.tmod_eq_emod_of_nonneg, Int.tdiv_eq_ediv_of_nonneg, Classical.not_not, xSw, rOK, b2i_ok, b2i_0, b2i_1, Nat.reduceAdd, Nat.reduceSub, Nat.reduceMul, Nat.reduceEqDiff, Nat.reduceLeDiff, Nat.reduceLT, Int.reduceAdd, Int.reduceSub, Int.reduceMul, Int.reduceNeg, Int.reduceEq, Int.reduceNe, Int.reduceLT, Int.reduceLE, Int.reduceToNat, Int.reduceTDiv, Int.reduceTMod, b2i_em, g0, g1, g2, g3, h1, h2]
    exact hr
/-- the turns from the first on -/
def tI (ru : RU) (A : Int → Int) (L : List Nat) (n : Nat) : Nat → Int → Int
  | 0 => fun _ => -1
  | t + 1 => (tS ru A L n (tI ru A L n t) n).1
/-- whether a turn changes anything -/
def tC (ru : RU) (A : Int → Int) (L : List Nat) (n t : Nat) : Int := (tS ru A L n (tI ru A L n t) n).2
