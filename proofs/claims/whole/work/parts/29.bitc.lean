/-- bitCount, as the JDK works it out -/
def bcE (x : Int) : Int :=
  let i1 := w32 (x - iAnd (iUsh x 1) 1431655765)
  let i2 := w32 (iAnd i1 858993459 + iAnd (iUsh i1 2) 858993459)
  let i3 := iAnd (w32 (i2 + iUsh i2 4)) 252645135
  let i4 := w32 (i3 + iUsh i3 8)
  let i5 := w32 (i4 + iUsh i4 16)
  iAnd i5 63
theorem c_bitG {d : Nat} {M : mM} {K : mQ} {x : Int} : mCall (d + 1) 298 [vi x] M K = K (some (vi (bcE x))) M := by
  simp (disch := first | decide | omega) only [b298, w298_0, w298_1, w298_2, w298_3, w298_4, w298_7, w298_8, w298_9, w298_10, w298_11, w298_14, w298_15, w298_16, w298_17, w298_18, w298_21, w298_22, w298_23, w298_24, w298_25, w298_26, w298_27, w298_28, w298_29, w298_32, w298_33, w298_34, w298_35, w298_36, w298_38, w298_39, w298_40, w298_41, w298_42, w298_43, w298_45, w298_46, w298_47, w298_48, w298_49, w298_51, w298_52, xLoad_i, xLoad_l, xLoad_r, xInc_s, xBr_t, xBr_f, xNz_s, xGf_s, xPf_s, xPz_s, xLd_2, xLd_7, xLd_10, xLdb_3, xLdb_5, xLdb_9, xLdl_4, xLdr_6, xSt_2, xStl_4, xStb_3, xStb_5, xLen_s, xLen_10, xCpy_s, xIv_s, xMx_s, mCont_s, mCont_n, w32_s, w64_s, upC_e, upC_n, upC_u, upC_c, mEn_c, mEn_n, mcw_i, mcw_l, mcw_r, mcat_n, mcat_i, mcat_l, mcat_r, xlong_i, xlong_l, xlong_r, xlong_n, s1_at, s2_at, ↓reduceIte, reduceCtorEq, and_self, true_and, and_true, false_and, and_false, Bool.false_eq_true, ne_eq, not_true_eq_false, not_false_eq_true, or_true, true_or, or_false, false_or, or_self, Int.tmod_eq_emod_of_nonneg, Int.tdiv_eq_ediv_of_nonneg, Classical.not_not, xSw, rOK, b2i_ok, b2i_0, b2i_1, Nat.reduceAdd, Nat.reduceSub, Nat.reduceMul, Nat.reduceEqDiff, Nat.reduceLeDiff, Nat.reduceLT, Int.reduceAdd, Int.reduceSub, Int.reduceMul, Int.reduceNeg, Int.reduceEq, Int.reduceNe, Int.reduceLT, Int.reduceLE, Int.reduceToNat, Int.reduceTDiv, Int.reduceTMod]
  rfl
theorem bcE_s {x : Int} (hx : 0 ≤ x ∧ x < 4096) : bcE x = pc x 12 := by
  obtain ⟨n, rfl⟩ := Int.eq_ofNat_of_zero_le hx.1
  obtain ⟨a, b, ha, hb, rfl⟩ : ∃ a b, a < 64 ∧ b < 64 ∧ n = 64 * a + b := ⟨n / 64, n % 64, by omega, by omega, by omega⟩
  clear hx
  revert hb
  revert b
  revert ha
  revert a
  decide +kernel
theorem c_bitCount {d : Nat} {M : mM} {K : mQ} {x : Int} (hx : 0 ≤ x ∧ x < 4096) : mCall (d + 1) 298 [vi x] M K = K (some (vi (pc x 12))) M := by
  rw [c_bitG, bcE_s hx]
