/-! text: the class writes down what waits -/
def rk (k : Int) : Int := if k = 39 then 0 else if k = 12 then 1 else if k = 13 then 2 else if k = 14 then 3 else if k = 34 ∨ k = 35 then 5 else if k = 36 ∨ k = 37 ∨ k = 38 then 6 else if k = 45 then 7 else 4
/-- what may wait -/
def isWt (k : Int) : Prop := (12 ≤ k ∧ k ≤ 14) ∨ (28 ≤ k ∧ k ≤ 39) ∨ k = 45
theorem c_rank {d : Nat} {M : mM} {K : mQ} {k : Int} (hk : isWt k) : mCall (d + 1) 65 [vi k] M K = K (some (vi (rk k))) M := by
  unfold isWt at hk
  rcases (show k = 12 ∨ k = 13 ∨ k = 14 ∨ k = 28 ∨ k = 29 ∨ k = 30 ∨ k = 31 ∨ k = 32 ∨ k = 33 ∨ k = 34 ∨ k = 35 ∨ k = 36 ∨ k = 37 ∨ k = 38 ∨ k = 39 ∨ k = 45 by omega) with rfl | rfl | rfl | rfl | rfl | rfl | rfl | rfl | rfl | rfl | rfl | rfl | rfl | rfl | rfl | rfl
  all_goals simp (disch := first | decide | omega) only [b65, w65_0, w65_1, w65_152, w65_153, w65_154, w65_155, w65_156, w65_157, w65_158, w65_159, w65_160, w65_161, w65_162, w65_164, w65_165, w65_167, w65_168, w65_169, xLoad_i, xLoad_l, xLoad_r, xInc_s, xBr_t, xBr_f, xNz_s, xGf_s, xPf_s, xPz_s, xLd_2, xLd_7, xLd_10, xLdb_3, xLdb_5, xLdb_9, xLdl_4, xLdr_6, xSt_2, xStl_4, xStb_3, xStb_5, xLen_s, xLen_10, xCpy_s, xIv_s, xMx_s, mCont_s, mCont_n, w32_s, w64_s, upC_e, upC_n, upC_u, upC_c, mEn_c, mEn_n, mcw_i, mcw_l, mcw_r, mcat_n, mcat_i, mcat_l, mcat_r, xlong_i, xlong_l, xlong_r, xlong_n, s1_at, s2_at, ↓reduceIte, reduceCtorEq, and_self, true_and, and_true, false_and, and_false, Bool.false_eq_true, ne_eq, not_true_eq_false, not_false_eq_true, or_true, true_or, or_false, false_or, or_self, Int.tmod_eq_emod_of_nonneg, Int.tdiv_eq_ediv_of_nonneg, Classical.not_not, xSw, rOK, b2i_ok, b2i_0, b2i_1, Nat.reduceAdd, Nat.reduceSub, Nat.reduceMul, Nat.reduceEqDiff, Nat.reduceLeDiff, Nat.reduceLT, Int.reduceAdd, Int.reduceSub, Int.reduceMul, Int.reduceNeg, Int.reduceEq, Int.reduceNe, Int.reduceLT, Int.reduceLE, Int.reduceToNat, Int.reduceTDiv, Int.reduceTMod, b2i_em, swT, List.getD_cons_zero, List.getD_cons_succ, List.getD_nil]
  all_goals rfl
theorem c_write {d t : Nat} {M : mM} {K : mQ} {s x : Int} (ht : t < 4) (hs : M (27 + 8 * t) 5 = s) (h0 : 0 ≤ s ∧ s < 300) : mCall (d + 1) 76 [vr (27 + 8 * t), vi x] M K = K none (upC (upC M (27 + 8 * t + 4) (mU (M (27 + 8 * t + 4)) s x)) (27 + 8 * t) (mU (M (27 + 8 * t)) 5 (s + 1))) := by
  rcases (show t = 0 ∨ t = 1 ∨ t = 2 ∨ t = 3 by omega) with rfl | rfl | rfl | rfl
  · replace hs : M 27 5 = s := hs
    simp (disch := first | decide | omega) only [b76, w76_0, w76_1, w76_4, w76_7, w76_10, w76_11, w76_12, w76_15, w76_16, w76_19, w76_20, w76_21, w76_22, w76_23, w76_26, w76_27, w76_28, w76_31, tc27, tr27_0, tr27_1, tr27_2, tr27_4, tr27_6, tr27_7, tr27_8, ta28, tn28, ta29, tn29, ta30, tn30, ta31, tn31, ta32, tn32, ta33, tn33, ta34, tn34, xLoad_i, xLoad_l, xLoad_r, xInc_s, xBr_t, xBr_f, xNz_s, xGf_s, xPf_s, xPz_s, xLd_2, xLd_7, xLd_10, xLdb_3, xLdb_5, xLdb_9, xLdl_4, xLdr_6, xSt_2, xStl_4, xStb_3, xStb_5, xLen_s, xLen_10, xCpy_s, xIv_s, xMx_s, mCont_s, mCont_n, w32_s, w64_s, upC_e, upC_n, upC_u, upC_c, mEn_c, mEn_n, mcw_i, mcw_l, mcw_r, mcat_n, mcat_i, mcat_l, mcat_r, xlong_i, xlong_l, xlong_r, xlong_n, s1_at, s2_at, ↓reduceIte, reduceCtorEq, and_self, true_and, and_true, false_and, and_false, Bool.false_eq_true, ne_eq, not_true_eq_false, not_false_eq_true, or_true, true_or, or_false, false_or, or_self, Int.tmod_eq_emod_of_nonneg, Int.tdiv_eq_ediv_of_nonneg, Classical.not_not, xSw, rOK, b2i_ok, b2i_0, b2i_1, Nat.reduceAdd, Nat.reduceSub, Nat.reduceMul, Nat.reduceEqDiff, Nat.reduceLeDiff, Nat.reduceLT, Int.reduceAdd, Int.reduceSub, Int.reduceMul, Int.reduceNeg, Int.reduceEq, Int.reduceNe, Int.reduceLT, Int.reduceLE, Int.reduceToNat, Int.reduceTDiv, Int.reduceTMod, b2i_em, hs]
  · replace hs : M 35 5 = s := hs
    simp (disch := first | decide | omega) only [b76, w76_0, w76_1, w76_4, w76_7, w76_10, w76_11, w76_12, w76_15, w76_16, w76_19, w76_20, w76_21, w76_22, w76_23, w76_26, w76_27, w76_28, w76_31, tc35, tr35_0, tr35_1, tr35_2, tr35_4, tr35_6, tr35_7, tr35_8, ta36, tn36, ta37, tn37, ta38, tn38, ta39, tn39, ta40, tn40, ta41, tn41, ta42, tn42, xLoad_i, xLoad_l, xLoad_r, xInc_s, xBr_t, xBr_f, xNz_s, xGf_s, xPf_s, xPz_s, xLd_2, xLd_7, xLd_10, xLdb_3, xLdb_5, xLdb_9, xLdl_4, xLdr_6, xSt_2, xStl_4, xStb_3, xStb_5, xLen_s, xLen_10, xCpy_s, xIv_s, xMx_s, mCont_s, mCont_n, w32_s, w64_s, upC_e, upC_n, upC_u, upC_c, mEn_c, mEn_n, mcw_i, mcw_l, mcw_r, mcat_n, mcat_i, mcat_l, mcat_r, xlong_i, xlong_l, xlong_r, xlong_n, s1_at, s2_at, ↓reduceIte, reduceCtorEq, and_self, true_and, and_true, false_and, and_false, Bool.false_eq_true, ne_eq, not_true_eq_false, not_false_eq_true, or_true, true_or, or_false, false_or, or_self, Int.tmod_eq_emod_of_nonneg, Int.tdiv_eq_ediv_of_nonneg, Classical.not_not, xSw, rOK, b2i_ok, b2i_0, b2i_1, Nat.reduceAdd, Nat.reduceSub, Nat.reduceMul, Nat.reduceEqDiff, Nat.reduceLeDiff, Nat.reduceLT, Int.reduceAdd, Int.reduceSub, Int.reduceMul, Int.reduceNeg, Int.reduceEq, Int.reduceNe, Int.reduceLT, Int.reduceLE, Int.reduceToNat, Int.reduceTDiv, Int.reduceTMod, b2i_em, hs]
  · replace hs : M 43 5 = s := hs
    simp (disch := first | decide | omega) only [b76, w76_0, w76_1, w76_4, w76_7, w76_10, w76_11, w76_12, w76_15, w76_16, w76_19, w76_20, w76_21, w76_22, w76_23, w76_26, w76_27, w76_28, w76_31, tc43, tr43_0, tr43_1, tr43_2, tr43_4, tr43_6, tr43_7, tr43_8, ta44, tn44, ta45, tn45, ta46, tn46, ta47, tn47, ta48, tn48, ta49, tn49, ta50, tn50, xLoad_i, xLoad_l, xLoad_r, xInc_s, xBr_t, xBr_f, xNz_s, xGf_s, xPf_s, xPz_s, xLd_2, xLd_7, xLd_10, xLdb_3, xLdb_5, xLdb_9, xLdl_4, xLdr_6, xSt_2, xStl_4, xStb_3, xStb_5, xLen_s, xLen_10, xCpy_s, xIv_s, xMx_s, mCont_s, mCont_n, w32_s, w64_s, upC_e, upC_n, upC_u, upC_c, mEn_c, mEn_n, mcw_i, mcw_l, mcw_r, mcat_n, mcat_i, mcat_l, mcat_r, xlong_i, xlong_l, xlong_r, xlong_n, s1_at, s2_at, ↓reduceIte, reduceCtorEq, and_self, true_and, and_true, false_and, and_false, Bool.false_eq_true, ne_eq, not_true_eq_false, not_false_eq_true, or_true, true_or, or_false, false_or, or_self, Int.tmod_eq_emod_of_nonneg, Int.tdiv_eq_ediv_of_nonneg, Classical.not_not, xSw, rOK, b2i_ok, b2i_0, b2i_1, Nat.reduceAdd, Nat.reduceSub, Nat.reduceMul, Nat.reduceEqDiff, Nat.reduceLeDiff, Nat.reduceLT, Int.reduceAdd, Int.reduceSub, Int.reduceMul, Int.reduceNeg, Int.reduceEq, Int.reduceNe, Int.reduceLT, Int.reduceLE, Int.reduceToNat, Int.reduceTDiv, Int.reduceTMod, b2i_em, hs]
  · replace hs : M 51 5 = s := hs
    simp (disch := first | decide | omega) only [b76, w76_0, w76_1, w76_4, w76_7, w76_10, w76_11, w76_12, w76_15, w76_16, w76_19, w76_20, w76_21, w76_22, w76_23, w76_26, w76_27, w76_28, w76_31, tc51, tr51_0, tr51_1, tr51_2, tr51_4, tr51_6, tr51_7, tr51_8, ta52, tn52, ta53, tn53, ta54, tn54, ta55, tn55, ta56, tn56, ta57, tn57, ta58, tn58, xLoad_i, xLoad_l, xLoad_r, xInc_s, xBr_t, xBr_f, xNz_s, xGf_s, xPf_s, xPz_s, xLd_2, xLd_7, xLd_10, xLdb_3, xLdb_5, xLdb_9, xLdl_4, xLdr_6, xSt_2, xStl_4, xStb_3, xStb_5, xLen_s, xLen_10, xCpy_s, xIv_s, xMx_s, mCont_s, mCont_n, w32_s, w64_s, upC_e, upC_n, upC_u, upC_c, mEn_c, mEn_n, mcw_i, mcw_l, mcw_r, mcat_n, mcat_i, mcat_l, mcat_r, xlong_i, xlong_l, xlong_r, xlong_n, s1_at, s2_at, ↓reduceIte, reduceCtorEq, and_self, true_and, and_true, false_and, and_false, Bool.false_eq_true, ne_eq, not_true_eq_false, not_false_eq_true, or_true, true_or, or_false, false_or, or_self, Int.tmod_eq_emod_of_nonneg, Int.tdiv_eq_ediv_of_nonneg, Classical.not_not, xSw, rOK, b2i_ok, b2i_0, b2i_1, Nat.reduceAdd, Nat.reduceSub, Nat.reduceMul, Nat.reduceEqDiff, Nat.reduceLeDiff, Nat.reduceLT, Int.reduceAdd, Int.reduceSub, Int.reduceMul, Int.reduceNeg, Int.reduceEq, Int.reduceNe, Int.reduceLT, Int.reduceLE, Int.reduceToNat, Int.reduceTDiv, Int.reduceTMod, b2i_em, hs]
theorem c_push {d : Nat} {M : mM} {K : mQ} {h k : Int} (hh : M 61 7 = h) (h0 : 0 ≤ h ∧ h < 64) : mCall (d + 1) 63 [vr 61, vi k] M K = K none (upC (upC M 62 (mU (M 62) h k)) 61 (mU (M 61) 7 (h + 1))) := by
  have h64 : ((64 : Nat) : Int) = 64 := rfl
  simp (disch := first | decide | omega) only [b63, w63_0, w63_1, w63_4, w63_5, w63_8, w63_9, w63_12, w63_13, w63_14, w63_17, w63_18, w63_21, w63_22, w63_23, w63_24, w63_25, w63_28, w63_29, w63_30, w63_33, tc61, tr61_2, tr61_6, ta62, tn62, xLoad_i, xLoad_l, xLoad_r, xInc_s, xBr_t, xBr_f, xNz_s, xGf_s, xPf_s, xPz_s, xLd_2, xLd_7, xLd_10, xLdb_3, xLdb_5, xLdb_9, xLdl_4, xLdr_6, xSt_2, xStl_4, xStb_3, xStb_5, xLen_s, xLen_10, xCpy_s, xIv_s, xMx_s, mCont_s, mCont_n, w32_s, w64_s, upC_e, upC_n, upC_u, upC_c, mEn_c, mEn_n, mcw_i, mcw_l, mcw_r, mcat_n, mcat_i, mcat_l, mcat_r, xlong_i, xlong_l, xlong_r, xlong_n, s1_at, s2_at, ↓reduceIte, reduceCtorEq, and_self, true_and, and_true, false_and, and_false, Bool.false_eq_true, ne_eq, not_true_eq_false, not_false_eq_true, or_true, true_or, or_false, false_or, or_self, Int.tmod_eq_emod_of_nonneg, Int.tdiv_eq_ediv_of_nonneg, Classical.not_not, xSw, rOK, b2i_ok, b2i_0, b2i_1, Nat.reduceAdd, Nat.reduceSub, Nat.reduceMul, Nat.reduceEqDiff, Nat.reduceLeDiff, Nat.reduceLT, Int.reduceAdd, Int.reduceSub, Int.reduceMul, Int.reduceNeg, Int.reduceEq, Int.reduceNe, Int.reduceLT, Int.reduceLE, Int.reduceToNat, Int.reduceTDiv, Int.reduceTMod, b2i_em, hh, h64]
/-- values one behind the other -/
def vAt (f : Int → Int) : Int → List Int → Prop
  | _, [] => True
  | i, x :: L => f i = x ∧ vAt f (i + 1) L
theorem vAt_c {f g : Int → Int} : ∀ (L : List Int) (i : Int), (∀ j, i ≤ j → j < i + L.length → f j = g j) → vAt f i L → vAt g i L
  | [], _, _, _ => trivial
  | x :: L, i, h, q => by
    rw [List.length_cons] at h
    exact ⟨(h i (by omega) (by omega)).symm.trans q.1, vAt_c L (i + 1) (fun j h1 h2 => h j (by omega) (by omega)) q.2⟩
theorem vAt_app {f : Int → Int} : ∀ (L R : List Int) (i : Int), vAt f i (L ++ R) ↔ vAt f i L ∧ vAt f (i + L.length) R
  | [], R, i => by
    rw [List.nil_append, List.length_nil, show i + ((0 : Nat) : Int) = i by omega]
    exact ⟨fun h => ⟨trivial, h⟩, fun h => h.2⟩
  | x :: L, R, i => by
    have ih := vAt_app (f := f) L R (i + 1)
    rw [List.length_cons, show i + ((L.length + 1 : Nat) : Int) = i + 1 + L.length by omega]
    show (f i = x ∧ vAt f (i + 1) (L ++ R)) ↔ (f i = x ∧ vAt f (i + 1) L) ∧ _
    rw [ih, and_assoc]
theorem vAt_snoc {f : Int → Int} {L : List Int} {i s x : Int} (hs : s = i + L.length) (h : vAt f i L) : vAt (mU f s x) i (L ++ [x]) := by
  rw [vAt_app]
  refine ⟨vAt_c L i (fun j h1 h2 => by rw [mU_n (by omega)]) h, ?_⟩
  rw [← hs]
  exact ⟨mU_e, trivial⟩
def ngs : List Int → Int
  | [] => 0
  | k :: L => (if k = 45 ∨ k = 14 then 1 else 0) + ngs L
theorem ngs_0 : ∀ W : List Int, 0 ≤ ngs W
  | [] => Int.le_refl _
  | k :: W => by
    have := ngs_0 W
    unfold ngs
    split <;> omega
/-- the cells that a law being read changes in the class, beside the tape -/
def fRd (t : Nat) (M M' : mM) : Prop := (∀ k, k ≠ 61 → k ≠ 62 → k ≠ 27 + 8 * t → k ≠ 27 + 8 * t + 4 → M' k = M k) ∧ (∀ i, i ≠ 7 → i ≠ 8 → M' 61 i = M 61 i) ∧ (∀ i, i ≠ 5 → M' (27 + 8 * t) i = M (27 + 8 * t) i)
theorem fRd_r {t : Nat} {M : mM} : fRd t M M := ⟨fun _ _ _ _ _ => rfl, fun _ _ _ => rfl, fun _ _ => rfl⟩
theorem fRd_t {t : Nat} {M M1 M2 : mM} (h1 : fRd t M M1) (h2 : fRd t M1 M2) : fRd t M M2 := ⟨fun k a b c e => (h2.1 k a b c e).trans (h1.1 k a b c e), fun i a b => (h2.2.1 i a b).trans (h1.2.1 i a b), fun i a => (h2.2.2 i a).trans (h1.2.2 i a)⟩
set_option maxHeartbeats 1000000 in
theorem c_writeDown {d t : Nat} {K : mQ} {least i : Int} {B : List Int} (ht : t < 4) (hB : ∀ b R, B = b :: R → isWt b ∧ rk b < least) (hBl : B.length ≤ 40) : ∀ (W : List Int) (M : mM) (C : List Int) (dp : Int) (lv : mL), (∀ k ∈ W, isWt k ∧ least ≤ rk k) → W.length + B.length ≤ 60 → M 61 3 = ((27 + 8 * t : Nat) : Int) → M 61 7 = (W.length : Int) + B.length → M 61 8 = dp → (ngs W ≤ dp ∧ dp ≤ 1000) → aSt (M 62) (W ++ B) → M (27 + 8 * t) 5 = i + C.length → (0 ≤ i ∧ i + C.length + W.length ≤ 300) → vAt (M (27 + 8 * t + 4)) i C → lv 0 = some (vr 61) → lv 1 = some (vi least) → (∀ M', fRd t M M' → M' 61 7 = B.length → M' 61 8 = dp - ngs W → aSt (M' 62) B → M' (27 + 8 * t) 5 = i + (C ++ W.map (fun k => 20000 + k)).length → vAt (M' (27 + 8 * t + 4)) i (C ++ W.map (fun k => 20000 + k)) → K none M') → rn (d + 1) 64 K 0 lv [] M
  | [], M, C, dp, lv, hW, hWl, h3, h7, h8, hdp, hs, h5, hi, hc, g0, g1, hK => by
    rw [List.length_nil, show ((0 : Nat) : Int) + (B.length : Int) = B.length by omega] at h7
    have hr := hK M fRd_r h7 (by rw [h8]; unfold ngs; omega) hs (by rw [List.map_nil, List.append_nil]; exact h5) (by rw [List.map_nil, List.append_nil]; exact hc)
    rw [w64_0]
    cases hb : B with
    | nil =>
      rw [hb, List.length_nil] at h7
      have h70 : M 61 7 = 0 := h7
      simp (disch := first | decide | omega) only [b64, w64_1, w64_4, w64_7, w64_8, w64_11, w64_12, w64_15, w64_16, w64_17, w64_18, w64_21, w64_22, w64_25, w64_26, w64_27, w64_30, w64_31, w64_32, w64_35, w64_36, w64_39, w64_40, w64_43, w64_44, w64_45, w64_46, w64_48, w64_51, w64_52, w64_54, w64_57, w64_58, w64_59, w64_62, w64_63, w64_64, w64_67, w64_68, w64_71, w64_74, w64_75, w64_76, w64_79, w64_82, tc61, tr61_2, tr61_6, ta62, tn62, xLoad_i, xLoad_l, xLoad_r, xInc_s, xBr_t, xBr_f, xNz_s, xGf_s, xPf_s, xPz_s, xLd_2, xLd_7, xLd_10, xLdb_3, xLdb_5, xLdb_9, xLdl_4, xLdr_6, xSt_2, xStl_4, xStb_3, xStb_5, xLen_s, xLen_10, xCpy_s, xIv_s, xMx_s, mCont_s, mCont_n, w32_s, w64_s, upC_e, upC_n, upC_u, upC_c, mEn_c, mEn_n, mcw_i, mcw_l, mcw_r, mcat_n, mcat_i, mcat_l, mcat_r, xlong_i, xlong_l, xlong_r, xlong_n, s1_at, s2_at, ↓reduceIte, reduceCtorEq, and_self, true_and, and_true, false_and, and_false, Bool.false_eq_true, ne_eq, not_true_eq_false, not_false_eq_true, or_true, true_or, or_false, false_or, or_self, Int.tmod_eq_emod_of_nonneg, Int.tdiv_eq_ediv_of_nonneg, Classical.not_not, xSw, rOK, b2i_ok, b2i_0, b2i_1, Nat.reduceAdd, Nat.reduceSub, Nat.reduceMul, Nat.reduceEqDiff, Nat.reduceLeDiff, Nat.reduceLT, Int.reduceAdd, Int.reduceSub, Int.reduceMul, Int.reduceNeg, Int.reduceEq, Int.reduceNe, Int.reduceLT, Int.reduceLE, Int.reduceToNat, Int.reduceTDiv, Int.reduceTMod, b2i_em, g0, g1, h70]
      exact hr
    | cons b R =>
      obtain ⟨b1, b2⟩ := hB b R hb
      rw [hb] at hs h7
      have q : M 62 (R.length : Int) = b := hs.1
      rw [List.length_cons] at h7
      rw [hb, List.length_cons] at hBl
      have e7 : ((R.length + 1 : Nat) : Int) = (R.length : Int) + 1 := by omega
      rw [e7] at h7
      have e8 : (R.length : Int) + 1 - 1 = R.length := by omega
      have w := fun (d : Nat) (M : mM) (K : mQ) => c_rank (d := d) (M := M) (K := K) b1
      simp (disch := first | decide | omega) only [b64, w64_1, w64_4, w64_7, w64_8, w64_11, w64_12, w64_15, w64_16, w64_17, w64_18, w64_21, w64_22, w64_25, w64_26, w64_27, w64_30, w64_31, w64_32, w64_35, w64_36, w64_39, w64_40, w64_43, w64_44, w64_45, w64_46, w64_48, w64_51, w64_52, w64_54, w64_57, w64_58, w64_59, w64_62, w64_63, w64_64, w64_67, w64_68, w64_71, w64_74, w64_75, w64_76, w64_79, w64_82, tc61, tr61_2, tr61_6, ta62, tn62, xLoad_i, xLoad_l, xLoad_r, xInc_s, xBr_t, xBr_f, xNz_s, xGf_s, xPf_s, xPz_s, xLd_2, xLd_7, xLd_10, xLdb_3, xLdb_5, xLdb_9, xLdl_4, xLdr_6, xSt_2, xStl_4, xStb_3, xStb_5, xLen_s, xLen_10, xCpy_s, xIv_s, xMx_s, mCont_s, mCont_n, w32_s, w64_s, upC_e, upC_n, upC_u, upC_c, mEn_c, mEn_n, mcw_i, mcw_l, mcw_r, mcat_n, mcat_i, mcat_l, mcat_r, xlong_i, xlong_l, xlong_r, xlong_n, s1_at, s2_at, ↓reduceIte, reduceCtorEq, and_self, true_and, and_true, false_and, and_false, Bool.false_eq_true, ne_eq, not_true_eq_false, not_false_eq_true, or_true, true_or, or_false, false_or, or_self, Int.tmod_eq_emod_of_nonneg, Int.tdiv_eq_ediv_of_nonneg, Classical.not_not, xSw, rOK, b2i_ok, b2i_0, b2i_1, Nat.reduceAdd, Nat.reduceSub, Nat.reduceMul, Nat.reduceEqDiff, Nat.reduceLeDiff, Nat.reduceLT, Int.reduceAdd, Int.reduceSub, Int.reduceMul, Int.reduceNeg, Int.reduceEq, Int.reduceNe, Int.reduceLT, Int.reduceLE, Int.reduceToNat, Int.reduceTDiv, Int.reduceTMod, b2i_em, g0, g1, h7, e8, q, w]
      exact hr
  | k :: W, M, C, dp, lv, hW, hWl, h3, h7, h8, hdp, hs, h5, hi, hc, g0, g1, hK => by
    obtain ⟨hk, hk2⟩ := hW k (List.mem_cons_self ..)
    obtain ⟨H, hH⟩ : ∃ H, (W ++ B).length = H := ⟨_, rfl⟩
    have hHl := hH
    rw [List.length_append] at hHl
    have q : M 62 (H : Int) = k := by rw [← hH]; exact hs.1
    rw [List.length_cons] at h7 hWl hi
    have h7' : M 61 7 = (H : Int) + 1 := by omega
    have e8 : (H : Int) + 1 - 1 = H := by omega
    have w := fun (d : Nat) (M : mM) (K : mQ) => c_rank (d := d) (M := M) (K := K) hk
    have hng : ngs (k :: W) = (if k = 45 ∨ k = 14 then 1 else 0) + ngs W := rfl
    have hkR : 12 ≤ k ∧ k ≤ 45 := by unfold isWt at hk; omega
    have hC1 : (C ++ [20000 + k]) ++ W.map (fun k => 20000 + k) = C ++ (k :: W).map (fun k => 20000 + k) := by
      rw [List.append_assoc]
      rfl
    have hCl : ((C ++ [20000 + k]).length : Int) = C.length + 1 := by
      rw [List.length_append]
      rfl
    have hnext : ∀ (M2 : mM) (dp2 : Int) (lv : mL), fRd t M M2 → M2 61 7 = H → M2 61 8 = dp2 → dp2 = dp - (if k = 45 ∨ k = 14 then 1 else 0) → M2 62 = M 62 → M2 (27 + 8 * t) 5 = M (27 + 8 * t) 5 → M2 (27 + 8 * t + 4) = M (27 + 8 * t + 4) → lv 0 = some (vr 61) → lv 1 = some (vi least) → lv 2 = some (vi k) → rn (d + 1) 64 K 67 lv [] M2 := fun M2 dp2 lv f2 a7 a8 hdp2 a62 a5 ac g0 g1 g2 => by
      have hM3 : M2 61 3 = ((27 + 8 * t : Nat) : Int) := by rw [f2.2.1 3 (by decide) (by decide)]; exact h3
      have hcl : clO (27 + 8 * t) = 8 := by
        rcases (show t = 0 ∨ t = 1 ∨ t = 2 ∨ t = 3 by omega) with rfl | rfl | rfl | rfl <;> decide +kernel
      simp (disch := first | decide | omega) only [b64, w64_1, w64_4, w64_7, w64_8, w64_11, w64_12, w64_15, w64_16, w64_17, w64_18, w64_21, w64_22, w64_25, w64_26, w64_27, w64_30, w64_31, w64_32, w64_35, w64_36, w64_39, w64_40, w64_43, w64_44, w64_45, w64_46, w64_48, w64_51, w64_52, w64_54, w64_57, w64_58, w64_59, w64_62, w64_63, w64_64, w64_67, w64_68, w64_71, w64_74, w64_75, w64_76, w64_79, w64_82, tc61, tr61_2, tr61_6, ta62, tn62, xLoad_i, xLoad_l, xLoad_r, xInc_s, xBr_t, xBr_f, xNz_s, xGf_s, xPf_s, xPz_s, xLd_2, xLd_7, xLd_10, xLdb_3, xLdb_5, xLdb_9, xLdl_4, xLdr_6, xSt_2, xStl_4, xStb_3, xStb_5, xLen_s, xLen_10, xCpy_s, xIv_s, xMx_s, mCont_s, mCont_n, w32_s, w64_s, upC_e, upC_n, upC_u, upC_c, mEn_c, mEn_n, mcw_i, mcw_l, mcw_r, mcat_n, mcat_i, mcat_l, mcat_r, xlong_i, xlong_l, xlong_r, xlong_n, s1_at, s2_at, ↓reduceIte, reduceCtorEq, and_self, true_and, and_true, false_and, and_false, Bool.false_eq_true, ne_eq, not_true_eq_false, not_false_eq_true, or_true, true_or, or_false, false_or, or_self, Int.tmod_eq_emod_of_nonneg, Int.tdiv_eq_ediv_of_nonneg, Classical.not_not, xSw, rOK, b2i_ok, b2i_0, b2i_1, Nat.reduceAdd, Nat.reduceSub, Nat.reduceMul, Nat.reduceEqDiff, Nat.reduceLeDiff, Nat.reduceLT, Int.reduceAdd, Int.reduceSub, Int.reduceMul, Int.reduceNeg, Int.reduceEq, Int.reduceNe, Int.reduceLT, Int.reduceLE, Int.reduceToNat, Int.reduceTDiv, Int.reduceTMod, b2i_em, g0, g1, g2, hM3, Int.toNat_natCast, hcl]
      rw [c_write ht (s := i + C.length) (by rw [a5]; exact h5) (by omega)]
      simp (disch := first | decide | omega) only [b64, w64_1, w64_4, w64_7, w64_8, w64_11, w64_12, w64_15, w64_16, w64_17, w64_18, w64_21, w64_22, w64_25, w64_26, w64_27, w64_30, w64_31, w64_32, w64_35, w64_36, w64_39, w64_40, w64_43, w64_44, w64_45, w64_46, w64_48, w64_51, w64_52, w64_54, w64_57, w64_58, w64_59, w64_62, w64_63, w64_64, w64_67, w64_68, w64_71, w64_74, w64_75, w64_76, w64_79, w64_82, tc61, tr61_2, tr61_6, ta62, tn62, xLoad_i, xLoad_l, xLoad_r, xInc_s, xBr_t, xBr_f, xNz_s, xGf_s, xPf_s, xPz_s, xLd_2, xLd_7, xLd_10, xLdb_3, xLdb_5, xLdb_9, xLdl_4, xLdr_6, xSt_2, xStl_4, xStb_3, xStb_5, xLen_s, xLen_10, xCpy_s, xIv_s, xMx_s, mCont_s, mCont_n, w32_s, w64_s, upC_e, upC_n, upC_u, upC_c, mEn_c, mEn_n, mcw_i, mcw_l, mcw_r, mcat_n, mcat_i, mcat_l, mcat_r, xlong_i, xlong_l, xlong_r, xlong_n, s1_at, s2_at, ↓reduceIte, reduceCtorEq, and_self, true_and, and_true, false_and, and_false, Bool.false_eq_true, ne_eq, not_true_eq_false, not_false_eq_true, or_true, true_or, or_false, false_or, or_self, Int.tmod_eq_emod_of_nonneg, Int.tdiv_eq_ediv_of_nonneg, Classical.not_not, xSw, rOK, b2i_ok, b2i_0, b2i_1, Nat.reduceAdd, Nat.reduceSub, Nat.reduceMul, Nat.reduceEqDiff, Nat.reduceLeDiff, Nat.reduceLT, Int.reduceAdd, Int.reduceSub, Int.reduceMul, Int.reduceNeg, Int.reduceEq, Int.reduceNe, Int.reduceLT, Int.reduceLE, Int.reduceToNat, Int.reduceTDiv, Int.reduceTMod, b2i_em]
      have f3 : fRd t M2 (upC (upC M2 (27 + 8 * t) (mU (M2 (27 + 8 * t)) 5 (i + C.length + 1))) (27 + 8 * t + 4) (mU (M2 (27 + 8 * t + 4)) (i + C.length) (20000 + k))) :=
        ⟨fun k a b c e => by rw [upC_n e, upC_n c], fun i a b => by rw [upC_n (by omega), upC_n (by omega)], fun i a => by rw [upC_n (by omega), upC_e, mU_n a]⟩
      refine c_writeDown (i := i) ht hB hBl W _ (C ++ [20000 + k]) dp2 _ (fun x hx => hW x (List.mem_cons_of_mem _ hx)) (by omega) ?_ ?_ ?_ ?_ ?_ ?_ ?_ ?_ ?_ ?_ ?_
      · rw [f3.2.1 3 (by decide) (by decide)]; exact hM3
      · rw [upC_n (by omega), upC_n (by omega), a7]; omega
      · rw [upC_n (by omega), upC_n (by omega)]; exact a8
      · rw [hng] at hdp
        rw [hdp2]
        constructor
        · omega
        · split <;> omega
      · rw [upC_n (by omega), upC_n (by omega), a62]; exact hs.2
      · rw [upC_n (by omega), upC_e, mU_e, hCl]; omega
      · rw [hCl]; omega
      · rw [upC_e, ac]
        exact vAt_snoc rfl hc
      · simp [s1_at, s2_at, mEn_c, mcw_r, mcw_i, mcw_l, xlong_i, xlong_r, xlong_l, xlong_n, g0]
      · simp [s1_at, s2_at, mEn_c, mcw_r, mcw_i, mcw_l, xlong_i, xlong_r, xlong_l, xlong_n, g1]
      · intro M' f' b7 b8 b62 b5 bc
        rw [hC1] at b5 bc
        exact hK M' (fRd_t f2 (fRd_t f3 f')) b7 (by rw [b8, hdp2, hng]; omega) b62 b5 bc
    rw [w64_0]
    by_cases c : k = 45 ∨ k = 14
    · have hd1 : 1 ≤ dp := by
        rw [hng, if_pos c] at hdp
        have := ngs_0 W
        omega
      rcases c with c | c
      all_goals
        subst c
        simp (disch := first | decide | omega) only [b64, w64_1, w64_4, w64_7, w64_8, w64_11, w64_12, w64_15, w64_16, w64_17, w64_18, w64_21, w64_22, w64_25, w64_26, w64_27, w64_30, w64_31, w64_32, w64_35, w64_36, w64_39, w64_40, w64_43, w64_44, w64_45, w64_46, w64_48, w64_51, w64_52, w64_54, w64_57, w64_58, w64_59, w64_62, w64_63, w64_64, w64_68, w64_71, w64_74, w64_75, w64_76, w64_79, w64_82, tc61, tr61_2, tr61_6, ta62, tn62, xLoad_i, xLoad_l, xLoad_r, xInc_s, xBr_t, xBr_f, xNz_s, xGf_s, xPf_s, xPz_s, xLd_2, xLd_7, xLd_10, xLdb_3, xLdb_5, xLdb_9, xLdl_4, xLdr_6, xSt_2, xStl_4, xStb_3, xStb_5, xLen_s, xLen_10, xCpy_s, xIv_s, xMx_s, mCont_s, mCont_n, w32_s, w64_s, upC_e, upC_n, upC_u, upC_c, mEn_c, mEn_n, mcw_i, mcw_l, mcw_r, mcat_n, mcat_i, mcat_l, mcat_r, xlong_i, xlong_l, xlong_r, xlong_n, s1_at, s2_at, ↓reduceIte, reduceCtorEq, and_self, true_and, and_true, false_and, and_false, Bool.false_eq_true, ne_eq, not_true_eq_false, not_false_eq_true, or_true, true_or, or_false, false_or, or_self, Int.tmod_eq_emod_of_nonneg, Int.tdiv_eq_ediv_of_nonneg, Classical.not_not, xSw, rOK, b2i_ok, b2i_0, b2i_1, Nat.reduceAdd, Nat.reduceSub, Nat.reduceMul, Nat.reduceEqDiff, Nat.reduceLeDiff, Nat.reduceLT, Int.reduceAdd, Int.reduceSub, Int.reduceMul, Int.reduceNeg, Int.reduceEq, Int.reduceNe, Int.reduceLT, Int.reduceLE, Int.reduceToNat, Int.reduceTDiv, Int.reduceTMod, b2i_em, g0, g1, h7', e8, q, w, mU_e, mU_n, h8]
        refine hnext _ (dp - 1) _ ⟨fun k a b c e => ?_, fun i a b => ?_, fun i a => ?_⟩ ?_ ?_ ?_ ?_ ?_ ?_ ?_ ?_ ?_
        any_goals (simp [s1_at, s2_at, mEn_c, mcw_r, mcw_i, mcw_l, xlong_i, xlong_r, xlong_l, xlong_n, g0, g1]; done)
        all_goals first | (rw [if_pos (by decide)]; done) | (simp (disch := first | decide | omega) only [upC_e, upC_n, mU_e, mU_n]; done)
    · have c1 : ¬ k = 45 := fun e => c (Or.inl e)
      have c2 : ¬ k = 14 := fun e => c (Or.inr e)
      simp (disch := first | decide | omega) only [b64, w64_1, w64_4, w64_7, w64_8, w64_11, w64_12, w64_15, w64_16, w64_17, w64_18, w64_21, w64_22, w64_25, w64_26, w64_27, w64_30, w64_31, w64_32, w64_35, w64_36, w64_39, w64_40, w64_43, w64_44, w64_45, w64_46, w64_48, w64_51, w64_52, w64_54, w64_57, w64_58, w64_59, w64_62, w64_63, w64_64, w64_68, w64_71, w64_74, w64_75, w64_76, w64_79, w64_82, tc61, tr61_2, tr61_6, ta62, tn62, xLoad_i, xLoad_l, xLoad_r, xInc_s, xBr_t, xBr_f, xNz_s, xGf_s, xPf_s, xPz_s, xLd_2, xLd_7, xLd_10, xLdb_3, xLdb_5, xLdb_9, xLdl_4, xLdr_6, xSt_2, xStl_4, xStb_3, xStb_5, xLen_s, xLen_10, xCpy_s, xIv_s, xMx_s, mCont_s, mCont_n, w32_s, w64_s, upC_e, upC_n, upC_u, upC_c, mEn_c, mEn_n, mcw_i, mcw_l, mcw_r, mcat_n, mcat_i, mcat_l, mcat_r, xlong_i, xlong_l, xlong_r, xlong_n, s1_at, s2_at, ↓reduceIte, reduceCtorEq, and_self, true_and, and_true, false_and, and_false, Bool.false_eq_true, ne_eq, not_true_eq_false, not_false_eq_true, or_true, true_or, or_false, false_or, or_self, Int.tmod_eq_emod_of_nonneg, Int.tdiv_eq_ediv_of_nonneg, Classical.not_not, xSw, rOK, b2i_ok, b2i_0, b2i_1, Nat.reduceAdd, Nat.reduceSub, Nat.reduceMul, Nat.reduceEqDiff, Nat.reduceLeDiff, Nat.reduceLT, Int.reduceAdd, Int.reduceSub, Int.reduceMul, Int.reduceNeg, Int.reduceEq, Int.reduceNe, Int.reduceLT, Int.reduceLE, Int.reduceToNat, Int.reduceTDiv, Int.reduceTMod, b2i_em, g0, g1, h7', e8, q, w, mU_e, mU_n, c1, c2]
      refine hnext _ dp _ ⟨fun k a b c e => ?_, fun i a b => ?_, fun i a => ?_⟩ ?_ ?_ ?_ ?_ ?_ ?_ ?_ ?_ ?_
      any_goals (simp [s1_at, s2_at, mEn_c, mcw_r, mcw_i, mcw_l, xlong_i, xlong_r, xlong_l, xlong_n, g0, g1]; done)
      all_goals first | (rw [if_neg c, Int.sub_zero]; done) | (simp (disch := first | decide | omega) only [upC_e, upC_n, mU_e, mU_n]; done) | (simp (disch := first | decide | omega) only [upC_e, upC_n, mU_e, mU_n]; exact h8)
