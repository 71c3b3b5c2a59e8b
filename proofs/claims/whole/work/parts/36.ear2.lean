/-- the greatest common measure, as rounds of it -/
def gcS : Nat → Int → Int → Int
  | 0, a, _ => a
  | n + 1, a, b => if b = 0 then a else gcS n b (a % b)
theorem gcS_0 (n : Nat) (a : Int) : gcS n a 0 = a := by
  cases n with
  | zero => rfl
  | succ n => unfold gcS; rw [if_pos rfl]
theorem gcS_s (n : Nat) (a b : Int) : gcS (n + 1) a b = if b = 0 then a else gcS n b (a % b) := rfl
theorem gc_half {a b : Int} (ha : 0 ≤ a) (hb : 0 < b) (h : a % b ≠ 0) : b % (a % b) * 2 < b ∧ 0 ≤ b % (a % b) := by
  have h1 := Int.emod_nonneg a (show b ≠ 0 by omega)
  have h2 := Int.emod_lt_of_pos a hb
  have h3 : 0 < a % b := by omega
  have h4 := Int.emod_nonneg b h
  have h5 := Int.emod_lt_of_pos b h3
  refine ⟨?_, h4⟩
  have h6 := Int.emod_add_mul_ediv b (a % b)
  have h7 : 1 ≤ b / (a % b) := (Int.le_ediv_iff_mul_le h3).mpr (by omega)
  have h8 := Int.mul_le_mul_of_nonneg_left h7 (Int.le_of_lt h3)
  omega
/-- enough rounds: more change nothing -/
theorem gcS_more : ∀ (k n m : Nat) (a b : Int), 0 ≤ a → 0 ≤ b → b < 2 ^ k → 2 * k ≤ n → 2 * k ≤ m → gcS n a b = gcS m a b
  | 0, n, m, a, b, ha, hb, hk, _, _ => by
    have : b = 0 := by have : b < 1 := hk; omega
    subst this
    rw [gcS_0, gcS_0]
  | k + 1, n, m, a, b, ha, hb, hk, hn, hm => by
    by_cases e : b = 0
    · subst e; rw [gcS_0, gcS_0]
    · obtain ⟨n2, rfl⟩ : ∃ x, n = x + 2 := ⟨n - 2, by omega⟩
      obtain ⟨m2, rfl⟩ : ∃ x, m = x + 2 := ⟨m - 2, by omega⟩
      have hb0 : 0 < b := by omega
      rw [show n2 + 2 = (n2 + 1) + 1 from rfl, show m2 + 2 = (m2 + 1) + 1 from rfl, gcS_s (n2 + 1), gcS_s (m2 + 1), if_neg e, if_neg e]
      by_cases e2 : a % b = 0
      · rw [e2, gcS_0, gcS_0]
      · have hh := gc_half ha hb0 e2
        have h1 := Int.emod_nonneg a (show b ≠ 0 by omega)
        rw [gcS_s n2, gcS_s m2, if_neg e2, if_neg e2]
        refine gcS_more k n2 m2 _ _ h1 hh.2 ?_ (by omega) (by omega)
        have : (2 : Int) ^ (k + 1) = 2 ^ k * 2 := Int.pow_succ 2 k
        omega
theorem gcS_pos : ∀ (n : Nat) (a b : Int), 0 < a → 0 ≤ b → 0 < gcS n a b ∧ gcS n a b ≤ max a b
  | 0, a, b, ha, hb => by unfold gcS; omega
  | n + 1, a, b, ha, hb => by
    unfold gcS
    by_cases e : b = 0
    · rw [if_pos e]; omega
    · rw [if_neg e]
      have h1 := Int.emod_nonneg a (show b ≠ 0 by omega)
      have h2 := Int.emod_lt_of_pos a (show 0 < b by omega)
      have := gcS_pos n b (a % b) (by omega) h1
      omega
theorem l_measure {d : Nat} {M : mM} {K : mQ} : ∀ (n : Nat) (a b : Int) (lv : mL), n ≤ 40 → (0 ≤ a ∧ a ≤ 10000) → (0 ≤ b ∧ b ≤ 10000) → lv 2 = some (vi a) → lv 3 = some (vi b) → lv 4 = some (vi (40 - n : Int)) → rn d 18 K 7 lv [] M = K (some (vi (max 1 (gcS n a b)))) M := by
  intro n
  induction n with
  | zero =>
    intro a b lv hn ha hb g2 g3 g4
    rw [w18_7]
    simp (disch := first | decide | omega) only [b18, w18_0, w18_1, w18_2, w18_3, w18_4, w18_5, w18_9, w18_11, w18_14, w18_15, w18_18, w18_19, w18_20, w18_21, w18_23, w18_24, w18_25, w18_27, w18_28, w18_31, w18_34, w18_35, w18_36, w18_39, xLoad_i, xLoad_l, xLoad_r, xInc_s, xBr_t, xBr_f, xNz_s, xGf_s, xPf_s, xPz_s, xLd_2, xLd_7, xLd_10, xLdb_3, xLdb_5, xLdb_9, xLdl_4, xLdr_6, xSt_2, xStl_4, xStb_3, xStb_5, xLen_s, xLen_10, xCpy_s, xIv_s, xMx_s, mCont_s, mCont_n, w32_s, w64_s, upC_e, upC_n, upC_u, upC_c, mEn_c, mEn_n, mcw_i, mcw_l, mcw_r, mcat_n, mcat_i, mcat_l, mcat_r, xlong_i, xlong_l, xlong_r, xlong_n, s1_at, s2_at, ↓reduceIte, reduceCtorEq, and_self, true_and, and_true, false_and, and_false, Bool.false_eq_true, ne_eq, not_true_eq_false, not_false_eq_true, or_true, true_or, or_false, false_or, or_self, Int.tmod_eq_emod_of_nonneg, Int.tdiv_eq_ediv_of_nonneg, Classical.not_not, xSw, rOK, b2i_ok, b2i_0, b2i_1, Nat.reduceAdd, Nat.reduceSub, Nat.reduceMul, Nat.reduceEqDiff, Nat.reduceLeDiff, Nat.reduceLT, Int.reduceAdd, Int.reduceSub, Int.reduceMul, Int.reduceNeg, Int.reduceEq, Int.reduceNe, Int.reduceLT, Int.reduceLE, Int.reduceToNat, Int.reduceTDiv, Int.reduceTMod, g2, g3, g4]
    rfl
  | succ n ih =>
    intro a b lv hn ha hb g2 g3 g4
    rw [w18_7]
    rw [gcS_s]
    by_cases e : b = 0
    · subst e
      simp (disch := first | decide | omega) only [b18, w18_0, w18_1, w18_2, w18_3, w18_4, w18_5, w18_9, w18_11, w18_14, w18_15, w18_18, w18_19, w18_20, w18_21, w18_23, w18_24, w18_25, w18_27, w18_28, w18_31, w18_34, w18_35, w18_36, w18_39, xLoad_i, xLoad_l, xLoad_r, xInc_s, xBr_t, xBr_f, xNz_s, xGf_s, xPf_s, xPz_s, xLd_2, xLd_7, xLd_10, xLdb_3, xLdb_5, xLdb_9, xLdl_4, xLdr_6, xSt_2, xStl_4, xStb_3, xStb_5, xLen_s, xLen_10, xCpy_s, xIv_s, xMx_s, mCont_s, mCont_n, w32_s, w64_s, upC_e, upC_n, upC_u, upC_c, mEn_c, mEn_n, mcw_i, mcw_l, mcw_r, mcat_n, mcat_i, mcat_l, mcat_r, xlong_i, xlong_l, xlong_r, xlong_n, s1_at, s2_at, ↓reduceIte, reduceCtorEq, and_self, true_and, and_true, false_and, and_false, Bool.false_eq_true, ne_eq, not_true_eq_false, not_false_eq_true, or_true, true_or, or_false, false_or, or_self, Int.tmod_eq_emod_of_nonneg, Int.tdiv_eq_ediv_of_nonneg, Classical.not_not, xSw, rOK, b2i_ok, b2i_0, b2i_1, Nat.reduceAdd, Nat.reduceSub, Nat.reduceMul, Nat.reduceEqDiff, Nat.reduceLeDiff, Nat.reduceLT, Int.reduceAdd, Int.reduceSub, Int.reduceMul, Int.reduceNeg, Int.reduceEq, Int.reduceNe, Int.reduceLT, Int.reduceLE, Int.reduceToNat, Int.reduceTDiv, Int.reduceTMod, g2, g3, g4]
    · rw [if_neg e]
      have h1 := Int.emod_nonneg a e
      have h2 := Int.emod_lt_of_pos a (show 0 < b by omega)
      simp (disch := first | decide | omega) only [b18, w18_0, w18_1, w18_2, w18_3, w18_4, w18_5, w18_9, w18_11, w18_14, w18_15, w18_18, w18_19, w18_20, w18_21, w18_23, w18_24, w18_25, w18_27, w18_28, w18_31, w18_34, w18_35, w18_36, w18_39, xLoad_i, xLoad_l, xLoad_r, xInc_s, xBr_t, xBr_f, xNz_s, xGf_s, xPf_s, xPz_s, xLd_2, xLd_7, xLd_10, xLdb_3, xLdb_5, xLdb_9, xLdl_4, xLdr_6, xSt_2, xStl_4, xStb_3, xStb_5, xLen_s, xLen_10, xCpy_s, xIv_s, xMx_s, mCont_s, mCont_n, w32_s, w64_s, upC_e, upC_n, upC_u, upC_c, mEn_c, mEn_n, mcw_i, mcw_l, mcw_r, mcat_n, mcat_i, mcat_l, mcat_r, xlong_i, xlong_l, xlong_r, xlong_n, s1_at, s2_at, ↓reduceIte, reduceCtorEq, and_self, true_and, and_true, false_and, and_false, Bool.false_eq_true, ne_eq, not_true_eq_false, not_false_eq_true, or_true, true_or, or_false, false_or, or_self, Int.tmod_eq_emod_of_nonneg, Int.tdiv_eq_ediv_of_nonneg, Classical.not_not, xSw, rOK, b2i_ok, b2i_0, b2i_1, Nat.reduceAdd, Nat.reduceSub, Nat.reduceMul, Nat.reduceEqDiff, Nat.reduceLeDiff, Nat.reduceLT, Int.reduceAdd, Int.reduceSub, Int.reduceMul, Int.reduceNeg, Int.reduceEq, Int.reduceNe, Int.reduceLT, Int.reduceLE, Int.reduceToNat, Int.reduceTDiv, Int.reduceTMod, g2, g3, g4]
      refine ih b (a % b) _ (by omega) (by omega) (by omega) ?_ ?_ ?_ <;> simp [s1_at, g2, g3, g4, xlong_i]
      exact congrArg vi (by omega)
theorem c_measure {d : Nat} {M : mM} {K : mQ} {a b : Int} (ha : 0 ≤ a ∧ a ≤ 10000) (hb : 0 ≤ b ∧ b ≤ 10000) : mCall (d + 1) 18 [vi a, vi b] M K = K (some (vi (max 1 (gcS 40 a b)))) M := by
  simp (disch := first | decide | omega) only [b18, w18_0, w18_1, w18_2, w18_3, w18_4, w18_5, w18_9, w18_11, w18_14, w18_15, w18_18, w18_19, w18_20, w18_21, w18_23, w18_24, w18_25, w18_27, w18_28, w18_31, w18_34, w18_35, w18_36, w18_39, xLoad_i, xLoad_l, xLoad_r, xInc_s, xBr_t, xBr_f, xNz_s, xGf_s, xPf_s, xPz_s, xLd_2, xLd_7, xLd_10, xLdb_3, xLdb_5, xLdb_9, xLdl_4, xLdr_6, xSt_2, xStl_4, xStb_3, xStb_5, xLen_s, xLen_10, xCpy_s, xIv_s, xMx_s, mCont_s, mCont_n, w32_s, w64_s, upC_e, upC_n, upC_u, upC_c, mEn_c, mEn_n, mcw_i, mcw_l, mcw_r, mcat_n, mcat_i, mcat_l, mcat_r, xlong_i, xlong_l, xlong_r, xlong_n, s1_at, s2_at, ↓reduceIte, reduceCtorEq, and_self, true_and, and_true, false_and, and_false, Bool.false_eq_true, ne_eq, not_true_eq_false, not_false_eq_true, or_true, true_or, or_false, false_or, or_self, Int.tmod_eq_emod_of_nonneg, Int.tdiv_eq_ediv_of_nonneg, Classical.not_not, xSw, rOK, b2i_ok, b2i_0, b2i_1, Nat.reduceAdd, Nat.reduceSub, Nat.reduceMul, Nat.reduceEqDiff, Nat.reduceLeDiff, Nat.reduceLT, Int.reduceAdd, Int.reduceSub, Int.reduceMul, Int.reduceNeg, Int.reduceEq, Int.reduceNe, Int.reduceLT, Int.reduceLE, Int.reduceToNat, Int.reduceTDiv, Int.reduceTMod]
  refine l_measure 40 a b _ (by omega) ha hb ?_ ?_ ?_ <;> simp [s1_at, mEn_c, mcw_i, xlong_i]
def nmT (f h u w lo hi : Int) : Int → Int := fun n => if n = 0 then f else if n = 1 then h else if n = 8 then u else if n = 9 then w else if n = 10 then lo else hi
/-- two notes that are false -/
def clP (r : Option (List (Int × Int))) (f h a b : Int) : Prop := 0 < a ∧ 0 < b ∧ (match r with
  | none => 7 ≤ max a b / gcS 40 (max a b) (min a b)
  | some L => evL (nmT f h (max a b / gcS 40 (max a b) (min a b)) (min a b / gcS 40 (max a b) (min a b)) (min a b) (max a b)) L = 0)
theorem okN1 {n : Int} (h : okN 1 n) : n = 0 ∨ n = 1 ∨ n = 8 ∨ n = 9 ∨ n = 10 ∨ n = 11 := by unfold okN at h; omega
set_option maxHeartbeats 1000000 in
theorem c_clash {d : Nat} {M : mM} {K : mQ} {ru : Int → Option (List (Int × Int))} (h : CR M ru) {a b : Int} (ha : 0 ≤ a ∧ a ≤ 999) (hb : 0 ≤ b ∧ b ≤ 999) (h1 : 0 ≤ M 9 49 ∧ M 9 49 ≤ 2000) (h2 : 0 ≤ M 63 2 ∧ M 63 2 ≤ 100) (h3 : 0 ≤ M 9 48 ∧ M 9 48 ≤ 9) (hK : ∀ M' z, fr SC M M' → (z = 0 ∨ z = 1) → (z = 1 ↔ clP (ru 1) (M 9 48) (M 9 49 + M 63 2) a b) → K (some (vi z)) M') : mCall (d + 4) 17 [vr 63, vi a, vi b] M K := by
  by_cases e0 : a ≤ 0
  · simp (disch := first | decide | omega) only [b17, w17_0, w17_1, w17_4, w17_5, w17_8, w17_9, w17_10, w17_11, w17_12, w17_15, w17_16, w17_17, w17_18, w17_21, w17_23, w17_25, w17_26, w17_29, w17_31, w17_32, w17_33, w17_36, w17_38, w17_40, w17_43, w17_45, w17_47, w17_48, w17_50, w17_53, w17_54, w17_57, w17_58, w17_59, w17_60, w17_63, w17_64, w17_67, w17_69, w17_71, w17_73, w17_74, w17_75, w17_76, w17_79, w17_81, w17_82, w17_84, w17_85, w17_86, w17_87, w17_90, w17_92, w17_93, w17_94, w17_95, w17_98, w17_100, w17_102, w17_103, w17_105, w17_106, w17_107, w17_110, w17_113, w17_116, w17_117, w17_120, w17_121, tc63, tr63_0, tr63_1, tr63_3, tr63_4, tr63_5, tr63_6, ta64, tn64, ta65, tn65, ta66, tn66, ta67, tn67, tc2, tr2_2, tr2_3, tr2_4, tr2_5, tr2_6, tr2_7, tr2_8, tr2_9, tr2_12, tr2_13, tr2_15, ta3, tn3, ta4, tn4, ta5, tn5, ta6, tn6, ta7, tn7, ta8, tn8, ta9, tn9, ta10, tn10, ta11, tn11, ta12, tn12, ta13, tn13, xLoad_i, xLoad_l, xLoad_r, xInc_s, xBr_t, xBr_f, xNz_s, xGf_s, xPf_s, xPz_s, xLd_2, xLd_7, xLd_10, xLdb_3, xLdb_5, xLdb_9, xLdl_4, xLdr_6, xSt_2, xStl_4, xStb_3, xStb_5, xLen_s, xLen_10, xCpy_s, xIv_s, xMx_s, mCont_s, mCont_n, w32_s, w64_s, upC_e, upC_n, upC_u, upC_c, mEn_c, mEn_n, mcw_i, mcw_l, mcw_r, mcat_n, mcat_i, mcat_l, mcat_r, xlong_i, xlong_l, xlong_r, xlong_n, s1_at, s2_at, ↓reduceIte, reduceCtorEq, and_self, true_and, and_true, false_and, and_false, Bool.false_eq_true, ne_eq, not_true_eq_false, not_false_eq_true, or_true, true_or, or_false, false_or, or_self, Int.tmod_eq_emod_of_nonneg, Int.tdiv_eq_ediv_of_nonneg, Classical.not_not, xSw, rOK, b2i_ok, b2i_0, b2i_1, Nat.reduceAdd, Nat.reduceSub, Nat.reduceMul, Nat.reduceEqDiff, Nat.reduceLeDiff, Nat.reduceLT, Int.reduceAdd, Int.reduceSub, Int.reduceMul, Int.reduceNeg, Int.reduceEq, Int.reduceNe, Int.reduceLT, Int.reduceLE, Int.reduceToNat, Int.reduceTDiv, Int.reduceTMod, e0]
    exact hK M 0 fr_refl (by decide) ⟨fun q => absurd q (by decide), fun q => (by have := q.1; omega)⟩
  by_cases e1 : b ≤ 0
  · simp (disch := first | decide | omega) only [b17, w17_0, w17_1, w17_4, w17_5, w17_8, w17_9, w17_10, w17_11, w17_12, w17_15, w17_16, w17_17, w17_18, w17_21, w17_23, w17_25, w17_26, w17_29, w17_31, w17_32, w17_33, w17_36, w17_38, w17_40, w17_43, w17_45, w17_47, w17_48, w17_50, w17_53, w17_54, w17_57, w17_58, w17_59, w17_60, w17_63, w17_64, w17_67, w17_69, w17_71, w17_73, w17_74, w17_75, w17_76, w17_79, w17_81, w17_82, w17_84, w17_85, w17_86, w17_87, w17_90, w17_92, w17_93, w17_94, w17_95, w17_98, w17_100, w17_102, w17_103, w17_105, w17_106, w17_107, w17_110, w17_113, w17_116, w17_117, w17_120, w17_121, tc63, tr63_0, tr63_1, tr63_3, tr63_4, tr63_5, tr63_6, ta64, tn64, ta65, tn65, ta66, tn66, ta67, tn67, tc2, tr2_2, tr2_3, tr2_4, tr2_5, tr2_6, tr2_7, tr2_8, tr2_9, tr2_12, tr2_13, tr2_15, ta3, tn3, ta4, tn4, ta5, tn5, ta6, tn6, ta7, tn7, ta8, tn8, ta9, tn9, ta10, tn10, ta11, tn11, ta12, tn12, ta13, tn13, xLoad_i, xLoad_l, xLoad_r, xInc_s, xBr_t, xBr_f, xNz_s, xGf_s, xPf_s, xPz_s, xLd_2, xLd_7, xLd_10, xLdb_3, xLdb_5, xLdb_9, xLdl_4, xLdr_6, xSt_2, xStl_4, xStb_3, xStb_5, xLen_s, xLen_10, xCpy_s, xIv_s, xMx_s, mCont_s, mCont_n, w32_s, w64_s, upC_e, upC_n, upC_u, upC_c, mEn_c, mEn_n, mcw_i, mcw_l, mcw_r, mcat_n, mcat_i, mcat_l, mcat_r, xlong_i, xlong_l, xlong_r, xlong_n, s1_at, s2_at, ↓reduceIte, reduceCtorEq, and_self, true_and, and_true, false_and, and_false, Bool.false_eq_true, ne_eq, not_true_eq_false, not_false_eq_true, or_true, true_or, or_false, false_or, or_self, Int.tmod_eq_emod_of_nonneg, Int.tdiv_eq_ediv_of_nonneg, Classical.not_not, xSw, rOK, b2i_ok, b2i_0, b2i_1, Nat.reduceAdd, Nat.reduceSub, Nat.reduceMul, Nat.reduceEqDiff, Nat.reduceLeDiff, Nat.reduceLT, Int.reduceAdd, Int.reduceSub, Int.reduceMul, Int.reduceNeg, Int.reduceEq, Int.reduceNe, Int.reduceLT, Int.reduceLE, Int.reduceToNat, Int.reduceTDiv, Int.reduceTMod, e0, e1]
    exact hK M 0 fr_refl (by decide) ⟨fun q => absurd q (by decide), fun q => (by have := q.2.1; omega)⟩
  have g1 := gcS_pos 40 (max a b) (min a b) (by omega) (by omega)
  have g2 : max 1 (gcS 40 (max a b) (min a b)) = gcS 40 (max a b) (min a b) := by omega
  generalize hg : gcS 40 (max a b) (min a b) = g at g1 g2
  have v1 : 0 ≤ max a b / g ∧ max a b / g ≤ 999 := ⟨Int.ediv_nonneg (by omega) (by omega), Int.le_trans (Int.ediv_le_self _ (by omega)) (by omega)⟩
  have v2 : 0 ≤ min a b / g ∧ min a b / g ≤ 999 := ⟨Int.ediv_nonneg (by omega) (by omega), Int.le_trans (Int.ediv_le_self _ (by omega)) (by omega)⟩
  have hP : clP (ru 1) (M 9 48) (M 9 49 + M 63 2) a b ↔ (match ru 1 with
    | none => 7 ≤ max a b / g
    | some L => evL (nmT (M 9 48) (M 9 49 + M 63 2) (max a b / g) (min a b / g) (min a b) (max a b)) L = 0) := by
    unfold clP
    rw [hg]
    exact ⟨fun q => q.2.2, fun q => ⟨by omega, by omega, q⟩⟩
  cases hr : ru 1 with
  | none =>
    rw [hr] at hP
    simp (disch := first | decide | omega) only [b17, w17_0, w17_1, w17_4, w17_5, w17_8, w17_9, w17_10, w17_11, w17_12, w17_15, w17_16, w17_17, w17_18, w17_21, w17_23, w17_25, w17_26, w17_29, w17_31, w17_32, w17_33, w17_36, w17_38, w17_40, w17_43, w17_45, w17_47, w17_48, w17_50, w17_53, w17_54, w17_57, w17_58, w17_59, w17_60, w17_63, w17_64, w17_67, w17_69, w17_71, w17_73, w17_74, w17_75, w17_76, w17_79, w17_81, w17_82, w17_84, w17_85, w17_86, w17_87, w17_90, w17_92, w17_93, w17_94, w17_95, w17_98, w17_100, w17_102, w17_103, w17_105, w17_106, w17_107, w17_110, w17_113, w17_116, w17_117, w17_120, w17_121, tc63, tr63_0, tr63_1, tr63_3, tr63_4, tr63_5, tr63_6, ta64, tn64, ta65, tn65, ta66, tn66, ta67, tn67, tc2, tr2_2, tr2_3, tr2_4, tr2_5, tr2_6, tr2_7, tr2_8, tr2_9, tr2_12, tr2_13, tr2_15, ta3, tn3, ta4, tn4, ta5, tn5, ta6, tn6, ta7, tn7, ta8, tn8, ta9, tn9, ta10, tn10, ta11, tn11, ta12, tn12, ta13, tn13, xLoad_i, xLoad_l, xLoad_r, xInc_s, xBr_t, xBr_f, xNz_s, xGf_s, xPf_s, xPz_s, xLd_2, xLd_7, xLd_10, xLdb_3, xLdb_5, xLdb_9, xLdl_4, xLdr_6, xSt_2, xStl_4, xStb_3, xStb_5, xLen_s, xLen_10, xCpy_s, xIv_s, xMx_s, mCont_s, mCont_n, w32_s, w64_s, upC_e, upC_n, upC_u, upC_c, mEn_c, mEn_n, mcw_i, mcw_l, mcw_r, mcat_n, mcat_i, mcat_l, mcat_r, xlong_i, xlong_l, xlong_r, xlong_n, s1_at, s2_at, ↓reduceIte, reduceCtorEq, and_self, true_and, and_true, false_and, and_false, Bool.false_eq_true, ne_eq, not_true_eq_false, not_false_eq_true, or_true, true_or, or_false, false_or, or_self, Int.tmod_eq_emod_of_nonneg, Int.tdiv_eq_ediv_of_nonneg, Classical.not_not, xSw, rOK, b2i_ok, b2i_0, b2i_1, Nat.reduceAdd, Nat.reduceSub, Nat.reduceMul, Nat.reduceEqDiff, Nat.reduceLeDiff, Nat.reduceLT, Int.reduceAdd, Int.reduceSub, Int.reduceMul, Int.reduceNeg, Int.reduceEq, Int.reduceNe, Int.reduceLT, Int.reduceLE, Int.reduceToNat, Int.reduceTDiv, Int.reduceTMod, e0, e1, c_measure, hg, g2]
    rw [c_ruling0 h (by decide) hr]
    simp (disch := first | decide | omega) only [b17, w17_0, w17_1, w17_4, w17_5, w17_8, w17_9, w17_10, w17_11, w17_12, w17_15, w17_16, w17_17, w17_18, w17_21, w17_23, w17_25, w17_26, w17_29, w17_31, w17_32, w17_33, w17_36, w17_38, w17_40, w17_43, w17_45, w17_47, w17_48, w17_50, w17_53, w17_54, w17_57, w17_58, w17_59, w17_60, w17_63, w17_64, w17_67, w17_69, w17_71, w17_73, w17_74, w17_75, w17_76, w17_79, w17_81, w17_82, w17_84, w17_85, w17_86, w17_87, w17_90, w17_92, w17_93, w17_94, w17_95, w17_98, w17_100, w17_102, w17_103, w17_105, w17_106, w17_107, w17_110, w17_113, w17_116, w17_117, w17_120, w17_121, tc63, tr63_0, tr63_1, tr63_3, tr63_4, tr63_5, tr63_6, ta64, tn64, ta65, tn65, ta66, tn66, ta67, tn67, tc2, tr2_2, tr2_3, tr2_4, tr2_5, tr2_6, tr2_7, tr2_8, tr2_9, tr2_12, tr2_13, tr2_15, ta3, tn3, ta4, tn4, ta5, tn5, ta6, tn6, ta7, tn7, ta8, tn8, ta9, tn9, ta10, tn10, ta11, tn11, ta12, tn12, ta13, tn13, xLoad_i, xLoad_l, xLoad_r, xInc_s, xBr_t, xBr_f, xNz_s, xGf_s, xPf_s, xPz_s, xLd_2, xLd_7, xLd_10, xLdb_3, xLdb_5, xLdb_9, xLdl_4, xLdr_6, xSt_2, xStl_4, xStb_3, xStb_5, xLen_s, xLen_10, xCpy_s, xIv_s, xMx_s, mCont_s, mCont_n, w32_s, w64_s, upC_e, upC_n, upC_u, upC_c, mEn_c, mEn_n, mcw_i, mcw_l, mcw_r, mcat_n, mcat_i, mcat_l, mcat_r, xlong_i, xlong_l, xlong_r, xlong_n, s1_at, s2_at, ↓reduceIte, reduceCtorEq, and_self, true_and, and_true, false_and, and_false, Bool.false_eq_true, ne_eq, not_true_eq_false, not_false_eq_true, or_true, true_or, or_false, false_or, or_self, Int.tmod_eq_emod_of_nonneg, Int.tdiv_eq_ediv_of_nonneg, Classical.not_not, xSw, rOK, b2i_ok, b2i_0, b2i_1, Nat.reduceAdd, Nat.reduceSub, Nat.reduceMul, Nat.reduceEqDiff, Nat.reduceLeDiff, Nat.reduceLT, Int.reduceAdd, Int.reduceSub, Int.reduceMul, Int.reduceNeg, Int.reduceEq, Int.reduceNe, Int.reduceLT, Int.reduceLE, Int.reduceToNat, Int.reduceTDiv, Int.reduceTMod, e0, e1, c_measure, hg, g2]
    refine xBr_i (fun q => ?_) (fun q => ?_)
    · simp (disch := first | decide | omega) only [b17, w17_0, w17_1, w17_4, w17_5, w17_8, w17_9, w17_10, w17_11, w17_12, w17_15, w17_16, w17_17, w17_18, w17_21, w17_23, w17_25, w17_26, w17_29, w17_31, w17_32, w17_33, w17_36, w17_38, w17_40, w17_43, w17_45, w17_47, w17_48, w17_50, w17_53, w17_54, w17_57, w17_58, w17_59, w17_60, w17_63, w17_64, w17_67, w17_69, w17_71, w17_73, w17_74, w17_75, w17_76, w17_79, w17_81, w17_82, w17_84, w17_85, w17_86, w17_87, w17_90, w17_92, w17_93, w17_94, w17_95, w17_98, w17_100, w17_102, w17_103, w17_105, w17_106, w17_107, w17_110, w17_113, w17_116, w17_117, w17_120, w17_121, tc63, tr63_0, tr63_1, tr63_3, tr63_4, tr63_5, tr63_6, ta64, tn64, ta65, tn65, ta66, tn66, ta67, tn67, tc2, tr2_2, tr2_3, tr2_4, tr2_5, tr2_6, tr2_7, tr2_8, tr2_9, tr2_12, tr2_13, tr2_15, ta3, tn3, ta4, tn4, ta5, tn5, ta6, tn6, ta7, tn7, ta8, tn8, ta9, tn9, ta10, tn10, ta11, tn11, ta12, tn12, ta13, tn13, xLoad_i, xLoad_l, xLoad_r, xInc_s, xBr_t, xBr_f, xNz_s, xGf_s, xPf_s, xPz_s, xLd_2, xLd_7, xLd_10, xLdb_3, xLdb_5, xLdb_9, xLdl_4, xLdr_6, xSt_2, xStl_4, xStb_3, xStb_5, xLen_s, xLen_10, xCpy_s, xIv_s, xMx_s, mCont_s, mCont_n, w32_s, w64_s, upC_e, upC_n, upC_u, upC_c, mEn_c, mEn_n, mcw_i, mcw_l, mcw_r, mcat_n, mcat_i, mcat_l, mcat_r, xlong_i, xlong_l, xlong_r, xlong_n, s1_at, s2_at, ↓reduceIte, reduceCtorEq, and_self, true_and, and_true, false_and, and_false, Bool.false_eq_true, ne_eq, not_true_eq_false, not_false_eq_true, or_true, true_or, or_false, false_or, or_self, Int.tmod_eq_emod_of_nonneg, Int.tdiv_eq_ediv_of_nonneg, Classical.not_not, xSw, rOK, b2i_ok, b2i_0, b2i_1, Nat.reduceAdd, Nat.reduceSub, Nat.reduceMul, Nat.reduceEqDiff, Nat.reduceLeDiff, Nat.reduceLT, Int.reduceAdd, Int.reduceSub, Int.reduceMul, Int.reduceNeg, Int.reduceEq, Int.reduceNe, Int.reduceLT, Int.reduceLE, Int.reduceToNat, Int.reduceTDiv, Int.reduceTMod]
      exact hK M 0 fr_refl (by decide) ⟨fun q => absurd q (by decide), fun q2 => (by have := hP.mp (hr ▸ q2); omega)⟩
    · simp (disch := first | decide | omega) only [b17, w17_0, w17_1, w17_4, w17_5, w17_8, w17_9, w17_10, w17_11, w17_12, w17_15, w17_16, w17_17, w17_18, w17_21, w17_23, w17_25, w17_26, w17_29, w17_31, w17_32, w17_33, w17_36, w17_38, w17_40, w17_43, w17_45, w17_47, w17_48, w17_50, w17_53, w17_54, w17_57, w17_58, w17_59, w17_60, w17_63, w17_64, w17_67, w17_69, w17_71, w17_73, w17_74, w17_75, w17_76, w17_79, w17_81, w17_82, w17_84, w17_85, w17_86, w17_87, w17_90, w17_92, w17_93, w17_94, w17_95, w17_98, w17_100, w17_102, w17_103, w17_105, w17_106, w17_107, w17_110, w17_113, w17_116, w17_117, w17_120, w17_121, tc63, tr63_0, tr63_1, tr63_3, tr63_4, tr63_5, tr63_6, ta64, tn64, ta65, tn65, ta66, tn66, ta67, tn67, tc2, tr2_2, tr2_3, tr2_4, tr2_5, tr2_6, tr2_7, tr2_8, tr2_9, tr2_12, tr2_13, tr2_15, ta3, tn3, ta4, tn4, ta5, tn5, ta6, tn6, ta7, tn7, ta8, tn8, ta9, tn9, ta10, tn10, ta11, tn11, ta12, tn12, ta13, tn13, xLoad_i, xLoad_l, xLoad_r, xInc_s, xBr_t, xBr_f, xNz_s, xGf_s, xPf_s, xPz_s, xLd_2, xLd_7, xLd_10, xLdb_3, xLdb_5, xLdb_9, xLdl_4, xLdr_6, xSt_2, xStl_4, xStb_3, xStb_5, xLen_s, xLen_10, xCpy_s, xIv_s, xMx_s, mCont_s, mCont_n, w32_s, w64_s, upC_e, upC_n, upC_u, upC_c, mEn_c, mEn_n, mcw_i, mcw_l, mcw_r, mcat_n, mcat_i, mcat_l, mcat_r, xlong_i, xlong_l, xlong_r, xlong_n, s1_at, s2_at, ↓reduceIte, reduceCtorEq, and_self, true_and, and_true, false_and, and_false, Bool.false_eq_true, ne_eq, not_true_eq_false, not_false_eq_true, or_true, true_or, or_false, false_or, or_self, Int.tmod_eq_emod_of_nonneg, Int.tdiv_eq_ediv_of_nonneg, Classical.not_not, xSw, rOK, b2i_ok, b2i_0, b2i_1, Nat.reduceAdd, Nat.reduceSub, Nat.reduceMul, Nat.reduceEqDiff, Nat.reduceLeDiff, Nat.reduceLT, Int.reduceAdd, Int.reduceSub, Int.reduceMul, Int.reduceNeg, Int.reduceEq, Int.reduceNe, Int.reduceLT, Int.reduceLE, Int.reduceToNat, Int.reduceTDiv, Int.reduceTMod]
      exact hK M 1 fr_refl (by decide) ⟨fun _ => hr ▸ hP.mpr (by omega), fun _ => rfl⟩
  | some L =>
    rw [hr] at hP
    sorry
