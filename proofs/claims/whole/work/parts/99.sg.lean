/-! shared: the numbers of the ways to share -/
theorem vO_ov {C n X : Nat} : ∀ i : Nat, i ≤ n → X < C ^ n → vO C (ov C n X) i = X / C ^ (n - i)
  | 0, _, hX => by
    rw [Nat.sub_zero, Nat.div_eq_of_lt hX]
    rfl
  | i + 1, hi, hX => by
    rw [vO_s, vO_ov i (by omega) hX]
    have e1 : (ov C n X (i : Nat)).toNat = X / C ^ (n - 1 - i) % C := by
      unfold ov wd
      rw [Int.toNat_natCast]
      omega
    rw [e1, show n - i = (n - (i + 1)) + 1 by omega, Nat.pow_succ, ← Nat.div_div_eq_div_mul, show n - 1 - i = n - (i + 1) by omega, Nat.mul_comm]
    exact Nat.div_add_mod _ _
theorem vO_ov' {C n X : Nat} (hX : X < C ^ n) : vO C (ov C n X) n = X := by
  rw [vO_ov n (Nat.le_refl _) hX, Nat.sub_self, Nat.pow_zero, Nat.div_one]
theorem vO_lt {C n : Nat} {v : Int → Int} (h : ∀ j : Nat, j < n → 0 ≤ v j ∧ v j < C) : vO C v n < C ^ n :=
  vlW_lt n (fun j hj => by have := h j hj; constructor <;> omega)
theorem ov_vO {C n : Nat} {v : Int → Int} (h : ∀ j : Nat, j < n → 0 ≤ v j ∧ v j < C) : ∀ k : Nat, k < n → ov C n (vO C v n) k = v k := fun k hk =>
  ov_pre (f := 0) (n := n) (x := vO C v n) (by omega) h (by rw [Nat.pow_zero, Nat.mul_one]; exact Nat.le_refl _) (by rw [Nat.pow_zero, Nat.mul_one]; omega) hk
theorem lexl_c {w w' v v' : Int → Int} : ∀ n : Nat, (∀ j : Nat, j < n → w j = w' j ∧ v j = v' j) → lexl w v n → lexl w' v' n
  | 0, _, h => h
  | n + 1, h, g => by
    rcases g with g | ⟨g1, g2⟩
    · exact Or.inl (lexl_c n (fun j hj => h j (by omega)) g)
    · refine Or.inr ⟨(eqv_i n).mpr (fun j hj => ?_), ?_⟩
      · rw [← (h j (by omega)).1, ← (h j (by omega)).2]
        exact (eqv_i n).mp g1 j hj
      · rw [← (h n (by omega)).1, ← (h n (by omega)).2]
        exact g2
theorem shV_C {v : Int → Int} {n W : Nat} (h : shV v n W) : ∀ j : Nat, j < n → 0 ≤ v j ∧ v j < ((W + 1 : Nat) : Int) := fun j hj => by
  have := shV_R h j hj
  omega
theorem okCh_sh {ru : RU} {A : Int → Int} {L : List Nat} {n W t : Nat} (h : okCh ru A L n (W + 1) 1 W (nSh ru A L) (vSh (W + 1)) t = 1) : shV (ov (W + 1) n t) n W :=
  ⟨fun j _ => (ov_R (by omega) _).1, (okCh_1.mp h).2.2 rfl⟩
theorem okCh_p {ru : RU} {A : Int → Int} {L : List Nat} {n W : Nat} {p : Int → Int} (hp : shV p n W) : okCh ru A L n (W + 1) 1 W (nSh ru A L) (vSh (W + 1)) (vO (W + 1) p n) = 1 ↔ welV ru A L n (nSh ru A L) p := by
  have hC := shV_C hp
  have e := ov_vO hC
  rw [okCh_1]
  unfold welV
  rw [ntV_c (v := ov (W + 1) n (vO (W + 1) p n)) (u := p) e]
  constructor
  · intro h; exact h.2.1
  · intro h
    refine ⟨fun i hi => ?_, h, fun _ => by rw [smV_c n e]; exact hp.2⟩
    have := ov_R (C := W + 1) (n := n) (x := vO (W + 1) p n) (by omega) i
    unfold vSh
    exact decide_eq_true (by omega)
/-- no way to share lies below this number and above that -/
theorem ok_none {ru : RU} {A : Int → Int} {L : List Nat} {n W : Nat} {a b : Nat} (hb : b ≤ (W + 1) ^ n) (h : ∀ q : Int → Int, shV q n W → a ≤ vO (W + 1) q n → vO (W + 1) q n < b → False) : ∀ t, a ≤ t → t < b → okCh ru A L n (W + 1) 1 W (nSh ru A L) (vSh (W + 1)) t ≠ 1 := fun t h1 h2 g =>
  h _ (okCh_sh g) (by rw [vO_ov' (by omega)]; exact h1) (by rw [vO_ov' (by omega)]; exact h2)
def p0V (n : Nat) (W : Int) : Int → Int := fun i => if i = ((n - 1 : Nat) : Int) then W else 0
theorem p0V_ok {n : Nat} {W : Int} (hn : 1 ≤ n ∧ n ≤ 4) (hW : 0 ≤ W) : shV (p0V n W) n W ∧ ∀ q : Int → Int, shV q n W → ¬ lexl q (p0V n W) n := by
  rcases (show n = 1 ∨ n = 2 ∨ n = 3 ∨ n = 4 by omega) with rfl | rfl | rfl | rfl
  · have e0 : p0V 1 W 0 = W := rfl
    unfold shV
    simp only [lexl, eqv, smV, e0, false_or, true_and, Int.natCast_zero] at *
    refine ⟨⟨fun j hj => ?_, by omega⟩, fun q hq => ?_⟩
    · obtain rfl : j = 0 := by omega
      exact hW
    · omega
  · have e0 : p0V 2 W 0 = 0 := rfl
    have e1 : p0V 2 W 1 = W := rfl
    unfold shV
    simp only [lexl, eqv, smV, e0, e1, false_or, true_and, Int.natCast_zero, Int.natCast_one] at *
    refine ⟨⟨fun j hj => ?_, by omega⟩, fun q hq => ?_⟩
    · rcases (show j = 0 ∨ j = 1 by omega) with rfl | rfl
      · exact Int.le_refl _
      · exact hW
    · have q0 := hq.1 0 (by omega)
      have q1 := hq.1 1 (by omega)
      simp only [Int.natCast_zero, Int.natCast_one] at q0 q1
      omega
  · have e0 : p0V 3 W 0 = 0 := rfl
    have e1 : p0V 3 W 1 = 0 := rfl
    have e2 : p0V 3 W (2 : Nat) = W := rfl
    unfold shV
    simp only [lexl, eqv, smV, e0, e1, e2, false_or, true_and, Int.natCast_zero, Int.natCast_one] at *
    refine ⟨⟨fun j hj => ?_, by omega⟩, fun q hq => ?_⟩
    · rcases (show j = 0 ∨ j = 1 ∨ j = 2 by omega) with rfl | rfl | rfl
      · exact Int.le_refl _
      · exact Int.le_refl _
      · exact hW
    · have q0 := hq.1 0 (by omega)
      have q1 := hq.1 1 (by omega)
      have q2 := hq.1 2 (by omega)
      simp only [Int.natCast_zero, Int.natCast_one] at q0 q1
      omega
  · have e0 : p0V 4 W 0 = 0 := rfl
    have e1 : p0V 4 W 1 = 0 := rfl
    have e2 : p0V 4 W (2 : Nat) = 0 := rfl
    have e3 : p0V 4 W (3 : Nat) = W := rfl
    unfold shV
    simp only [lexl, eqv, smV, e0, e1, e2, e3, false_or, true_and, Int.natCast_zero, Int.natCast_one] at *
    refine ⟨⟨fun j hj => ?_, by omega⟩, fun q hq => ?_⟩
    · rcases (show j = 0 ∨ j = 1 ∨ j = 2 ∨ j = 3 by omega) with rfl | rfl | rfl | rfl
      · exact Int.le_refl _
      · exact Int.le_refl _
      · exact Int.le_refl _
      · exact hW
    · have q0 := hq.1 0 (by omega)
      have q1 := hq.1 1 (by omega)
      have q2 := hq.1 2 (by omega)
      have q3 := hq.1 3 (by omega)
      simp only [Int.natCast_zero, Int.natCast_one] at q0 q1
      omega
theorem p61 (W n : Nat) (hW : W ≤ 60) (hn : n ≤ 4) : (W + 1) ^ n ≤ 61 ^ 4 := Nat.le_trans (Nat.pow_le_pow_left (by omega) n) (Nat.pow_le_pow_right (by decide) hn)
/-- the up-check of the class -/
theorem c_areUp1 {d : Nat} {M : mM} {K : mQ} {A : Int → Int} {ru : RU} {L : List Nat} {s : Int} (h : CX M A ru) (hBR : BRs A s L L.length) (hu : upS A L L.length) : mCall (d + 2) 96 [vr 2, vi s] M K = K (some (vi 1)) M := by
  have h1 := h.1.1
  have bb0 := h.2.2.2.1.1
  simp (disch := first | decide | omega) only [b96, w96_0, w96_1, w96_3, w96_4, w96_7, w96_10, w96_11, w96_12, w96_15, w96_18, w96_19, w96_22, w96_24, w96_25, w96_26, w96_27, w96_30, w96_31, w96_32, w96_35, w96_38, w96_39, tc2, tr2_2, tr2_3, tr2_4, tr2_5, tr2_6, tr2_7, tr2_8, tr2_9, tr2_12, tr2_13, tr2_15, ta3, tn3, ta4, tn4, ta5, tn5, ta6, tn6, ta7, tn7, ta8, tn8, ta9, tn9, ta10, tn10, ta11, tn11, ta12, tn12, ta13, tn13, xLoad_i, xLoad_l, xLoad_r, xInc_s, xBr_t, xBr_f, xNz_s, xGf_s, xPf_s, xPz_s, xLd_2, xLd_7, xLd_10, xLdb_3, xLdb_5, xLdb_9, xLdl_4, xLdr_6, xSt_2, xStl_4, xStb_3, xStb_5, xLen_s, xLen_10, xCpy_s, xIv_s, xMx_s, mCont_s, mCont_n, w32_s, w64_s, upC_e, upC_n, upC_u, upC_c, mEn_c, mEn_n, mcw_i, mcw_l, mcw_r, mcat_n, mcat_i, mcat_l, mcat_r, xlong_i, xlong_l, xlong_r, xlong_n, s1_at, s2_at, ↓reduceIte, reduceCtorEq, and_self, true_and, and_true, false_and, and_false, Bool.false_eq_true, ne_eq, not_true_eq_false, not_false_eq_true, or_true, true_or, or_false, false_or, or_self, Int.tmod_eq_emod_of_nonneg, Int.tdiv_eq_ediv_of_nonneg, Classical.not_not, xSw, rOK, b2i_ok, b2i_0, b2i_1, Nat.reduceAdd, Nat.reduceSub, Nat.reduceMul, Nat.reduceEqDiff, Nat.reduceLeDiff, Nat.reduceLT, Int.reduceAdd, Int.reduceSub, Int.reduceMul, Int.reduceNeg, Int.reduceEq, Int.reduceNe, Int.reduceLT, Int.reduceLE, Int.reduceToNat, Int.reduceTDiv, Int.reduceTMod, b2i_em]
  refine loopL (P := fun k lv M' => M' = M ∧ lv 0 = some (vr 2) ∧ lv 1 = some (vi s) ∧ lv 2 = some (vi (k : Nat))) (G := fun lv M' => rn (d + 1) 96 K 2 lv [] M' = K (some (vi 1)) M) (A 0).toNat 0 (Nat.zero_le _) _ _ ⟨rfl, ?_, ?_, ?_⟩ (fun k hk ih lv M' hI => ?_) (fun lv M' hI => ?_)
  any_goals (simp [s1_at, s2_at, mEn_c, mcw_r, mcw_i, mcw_l, xlong_i, xlong_r, xlong_l, xlong_n]; done)
  · obtain ⟨rfl, g0, g1, g2⟩ := hI
    have q := (h.2.1.1 k (by omega)).2.2.1
    rw [w96_2]
    by_cases c : isI s k
    · have w := fun (d : Nat) (M : mM) (K : mQ) => c_isI1 (d := d) (M := M) (K := K) c
      obtain ⟨i, hi, rfl⟩ := BRs_ex hBR c
      have hz := hu i hi
      rw [hz] at q
      simp (disch := first | decide | omega) only [b96, w96_0, w96_1, w96_3, w96_4, w96_7, w96_10, w96_11, w96_12, w96_15, w96_18, w96_19, w96_22, w96_24, w96_25, w96_26, w96_27, w96_30, w96_31, w96_32, w96_35, w96_38, w96_39, tc2, tr2_2, tr2_3, tr2_4, tr2_5, tr2_6, tr2_7, tr2_8, tr2_9, tr2_12, tr2_13, tr2_15, ta3, tn3, ta4, tn4, ta5, tn5, ta6, tn6, ta7, tn7, ta8, tn8, ta9, tn9, ta10, tn10, ta11, tn11, ta12, tn12, ta13, tn13, xLoad_i, xLoad_l, xLoad_r, xInc_s, xBr_t, xBr_f, xNz_s, xGf_s, xPf_s, xPz_s, xLd_2, xLd_7, xLd_10, xLdb_3, xLdb_5, xLdb_9, xLdl_4, xLdr_6, xSt_2, xStl_4, xStb_3, xStb_5, xLen_s, xLen_10, xCpy_s, xIv_s, xMx_s, mCont_s, mCont_n, w32_s, w64_s, upC_e, upC_n, upC_u, upC_c, mEn_c, mEn_n, mcw_i, mcw_l, mcw_r, mcat_n, mcat_i, mcat_l, mcat_r, xlong_i, xlong_l, xlong_r, xlong_n, s1_at, s2_at, ↓reduceIte, reduceCtorEq, and_self, true_and, and_true, false_and, and_false, Bool.false_eq_true, ne_eq, not_true_eq_false, not_false_eq_true, or_true, true_or, or_false, false_or, or_self, Int.tmod_eq_emod_of_nonneg, Int.tdiv_eq_ediv_of_nonneg, Classical.not_not, xSw, rOK, b2i_ok, b2i_0, b2i_1, Nat.reduceAdd, Nat.reduceSub, Nat.reduceMul, Nat.reduceEqDiff, Nat.reduceLeDiff, Nat.reduceLT, Int.reduceAdd, Int.reduceSub, Int.reduceMul, Int.reduceNeg, Int.reduceEq, Int.reduceNe, Int.reduceLT, Int.reduceLE, Int.reduceToNat, Int.reduceTDiv, Int.reduceTMod, b2i_em, g0, g1, g2, h1, w, q]
      refine ih _ _ ⟨rfl, ?_, ?_, ?_⟩
      all_goals simp [s1_at, s2_at, mEn_c, mcw_r, mcw_i, mcw_l, xlong_i, xlong_r, xlong_l, xlong_n, g0, g1, g2]
    · have w := fun (d : Nat) (M : mM) (K : mQ) => c_isI0 (d := d) (M := M) (K := K) c
      simp (disch := first | decide | omega) only [b96, w96_0, w96_1, w96_3, w96_4, w96_7, w96_10, w96_11, w96_12, w96_15, w96_18, w96_19, w96_22, w96_24, w96_25, w96_26, w96_27, w96_30, w96_31, w96_32, w96_35, w96_38, w96_39, tc2, tr2_2, tr2_3, tr2_4, tr2_5, tr2_6, tr2_7, tr2_8, tr2_9, tr2_12, tr2_13, tr2_15, ta3, tn3, ta4, tn4, ta5, tn5, ta6, tn6, ta7, tn7, ta8, tn8, ta9, tn9, ta10, tn10, ta11, tn11, ta12, tn12, ta13, tn13, xLoad_i, xLoad_l, xLoad_r, xInc_s, xBr_t, xBr_f, xNz_s, xGf_s, xPf_s, xPz_s, xLd_2, xLd_7, xLd_10, xLdb_3, xLdb_5, xLdb_9, xLdl_4, xLdr_6, xSt_2, xStl_4, xStb_3, xStb_5, xLen_s, xLen_10, xCpy_s, xIv_s, xMx_s, mCont_s, mCont_n, w32_s, w64_s, upC_e, upC_n, upC_u, upC_c, mEn_c, mEn_n, mcw_i, mcw_l, mcw_r, mcat_n, mcat_i, mcat_l, mcat_r, xlong_i, xlong_l, xlong_r, xlong_n, s1_at, s2_at, ↓reduceIte, reduceCtorEq, and_self, true_and, and_true, false_and, and_false, Bool.false_eq_true, ne_eq, not_true_eq_false, not_false_eq_true, or_true, true_or, or_false, false_or, or_self, Int.tmod_eq_emod_of_nonneg, Int.tdiv_eq_ediv_of_nonneg, Classical.not_not, xSw, rOK, b2i_ok, b2i_0, b2i_1, Nat.reduceAdd, Nat.reduceSub, Nat.reduceMul, Nat.reduceEqDiff, Nat.reduceLeDiff, Nat.reduceLT, Int.reduceAdd, Int.reduceSub, Int.reduceMul, Int.reduceNeg, Int.reduceEq, Int.reduceNe, Int.reduceLT, Int.reduceLE, Int.reduceToNat, Int.reduceTDiv, Int.reduceTMod, b2i_em, g0, g1, g2, h1, w]
      refine ih _ _ ⟨rfl, ?_, ?_, ?_⟩
      all_goals simp [s1_at, s2_at, mEn_c, mcw_r, mcw_i, mcw_l, xlong_i, xlong_r, xlong_l, xlong_n, g0, g1, g2]
  · obtain ⟨rfl, g0, g1, g2⟩ := hI
    rw [w96_2]
    simp (disch := first | decide | omega) only [b96, w96_0, w96_1, w96_3, w96_4, w96_7, w96_10, w96_11, w96_12, w96_15, w96_18, w96_19, w96_22, w96_24, w96_25, w96_26, w96_27, w96_30, w96_31, w96_32, w96_35, w96_38, w96_39, tc2, tr2_2, tr2_3, tr2_4, tr2_5, tr2_6, tr2_7, tr2_8, tr2_9, tr2_12, tr2_13, tr2_15, ta3, tn3, ta4, tn4, ta5, tn5, ta6, tn6, ta7, tn7, ta8, tn8, ta9, tn9, ta10, tn10, ta11, tn11, ta12, tn12, ta13, tn13, xLoad_i, xLoad_l, xLoad_r, xInc_s, xBr_t, xBr_f, xNz_s, xGf_s, xPf_s, xPz_s, xLd_2, xLd_7, xLd_10, xLdb_3, xLdb_5, xLdb_9, xLdl_4, xLdr_6, xSt_2, xStl_4, xStb_3, xStb_5, xLen_s, xLen_10, xCpy_s, xIv_s, xMx_s, mCont_s, mCont_n, w32_s, w64_s, upC_e, upC_n, upC_u, upC_c, mEn_c, mEn_n, mcw_i, mcw_l, mcw_r, mcat_n, mcat_i, mcat_l, mcat_r, xlong_i, xlong_l, xlong_r, xlong_n, s1_at, s2_at, ↓reduceIte, reduceCtorEq, and_self, true_and, and_true, false_and, and_false, Bool.false_eq_true, ne_eq, not_true_eq_false, not_false_eq_true, or_true, true_or, or_false, false_or, or_self, Int.tmod_eq_emod_of_nonneg, Int.tdiv_eq_ediv_of_nonneg, Classical.not_not, xSw, rOK, b2i_ok, b2i_0, b2i_1, Nat.reduceAdd, Nat.reduceSub, Nat.reduceMul, Nat.reduceEqDiff, Nat.reduceLeDiff, Nat.reduceLT, Int.reduceAdd, Int.reduceSub, Int.reduceMul, Int.reduceNeg, Int.reduceEq, Int.reduceNe, Int.reduceLT, Int.reduceLE, Int.reduceToNat, Int.reduceTDiv, Int.reduceTMod, b2i_em, g0, g1, g2, h1]
theorem c_areUp0 {d : Nat} {M : mM} {K : mQ} {A : Int → Int} {ru : RU} {L : List Nat} {s : Int} (h : CX M A ru) (hBR : BRs A s L L.length) (hu : ¬ upS A L L.length) : mCall (d + 2) 96 [vr 2, vi s] M K = K (some (vi 0)) M := by
  have h1 := h.1.1
  have bb0 := h.2.2.2.1.1
  simp (disch := first | decide | omega) only [b96, w96_0, w96_1, w96_3, w96_4, w96_7, w96_10, w96_11, w96_12, w96_15, w96_18, w96_19, w96_22, w96_24, w96_25, w96_26, w96_27, w96_30, w96_31, w96_32, w96_35, w96_38, w96_39, tc2, tr2_2, tr2_3, tr2_4, tr2_5, tr2_6, tr2_7, tr2_8, tr2_9, tr2_12, tr2_13, tr2_15, ta3, tn3, ta4, tn4, ta5, tn5, ta6, tn6, ta7, tn7, ta8, tn8, ta9, tn9, ta10, tn10, ta11, tn11, ta12, tn12, ta13, tn13, xLoad_i, xLoad_l, xLoad_r, xInc_s, xBr_t, xBr_f, xNz_s, xGf_s, xPf_s, xPz_s, xLd_2, xLd_7, xLd_10, xLdb_3, xLdb_5, xLdb_9, xLdl_4, xLdr_6, xSt_2, xStl_4, xStb_3, xStb_5, xLen_s, xLen_10, xCpy_s, xIv_s, xMx_s, mCont_s, mCont_n, w32_s, w64_s, upC_e, upC_n, upC_u, upC_c, mEn_c, mEn_n, mcw_i, mcw_l, mcw_r, mcat_n, mcat_i, mcat_l, mcat_r, xlong_i, xlong_l, xlong_r, xlong_n, s1_at, s2_at, ↓reduceIte, reduceCtorEq, and_self, true_and, and_true, false_and, and_false, Bool.false_eq_true, ne_eq, not_true_eq_false, not_false_eq_true, or_true, true_or, or_false, false_or, or_self, Int.tmod_eq_emod_of_nonneg, Int.tdiv_eq_ediv_of_nonneg, Classical.not_not, xSw, rOK, b2i_ok, b2i_0, b2i_1, Nat.reduceAdd, Nat.reduceSub, Nat.reduceMul, Nat.reduceEqDiff, Nat.reduceLeDiff, Nat.reduceLT, Int.reduceAdd, Int.reduceSub, Int.reduceMul, Int.reduceNeg, Int.reduceEq, Int.reduceNe, Int.reduceLT, Int.reduceLE, Int.reduceToNat, Int.reduceTDiv, Int.reduceTMod, b2i_em]
  refine loopL (P := fun k lv M' => M' = M ∧ (∀ j : Nat, j < k → isI s j → A (95 + j) = 0) ∧ lv 0 = some (vr 2) ∧ lv 1 = some (vi s) ∧ lv 2 = some (vi (k : Nat))) (G := fun lv M' => rn (d + 1) 96 K 2 lv [] M' = K (some (vi 0)) M) (A 0).toNat 0 (Nat.zero_le _) _ _ ⟨rfl, fun j hj => absurd hj (by omega), ?_, ?_, ?_⟩ (fun k hk ih lv M' hI => ?_) (fun lv M' hI => ?_)
  any_goals (simp [s1_at, s2_at, mEn_c, mcw_r, mcw_i, mcw_l, xlong_i, xlong_r, xlong_l, xlong_n]; done)
  · obtain ⟨rfl, ha, g0, g1, g2⟩ := hI
    have q := (h.2.1.1 k (by omega)).2.2.1
    have hs : (isI s k → A (95 + k) = 0) → ∀ j : Nat, j < k + 1 → isI s j → A (95 + j) = 0 := fun hk j hj => by
      by_cases e : j = k
      · rw [e]; exact hk
      · exact ha j (by omega)
    rw [w96_2]
    by_cases c : isI s k
    · have w := fun (d : Nat) (M : mM) (K : mQ) => c_isI1 (d := d) (M := M) (K := K) c
      by_cases cz : A (95 + (k : Nat)) = 0
      · rw [cz] at q
        simp (disch := first | decide | omega) only [b96, w96_0, w96_1, w96_3, w96_4, w96_7, w96_10, w96_11, w96_12, w96_15, w96_18, w96_19, w96_22, w96_24, w96_25, w96_26, w96_27, w96_30, w96_31, w96_32, w96_35, w96_38, w96_39, tc2, tr2_2, tr2_3, tr2_4, tr2_5, tr2_6, tr2_7, tr2_8, tr2_9, tr2_12, tr2_13, tr2_15, ta3, tn3, ta4, tn4, ta5, tn5, ta6, tn6, ta7, tn7, ta8, tn8, ta9, tn9, ta10, tn10, ta11, tn11, ta12, tn12, ta13, tn13, xLoad_i, xLoad_l, xLoad_r, xInc_s, xBr_t, xBr_f, xNz_s, xGf_s, xPf_s, xPz_s, xLd_2, xLd_7, xLd_10, xLdb_3, xLdb_5, xLdb_9, xLdl_4, xLdr_6, xSt_2, xStl_4, xStb_3, xStb_5, xLen_s, xLen_10, xCpy_s, xIv_s, xMx_s, mCont_s, mCont_n, w32_s, w64_s, upC_e, upC_n, upC_u, upC_c, mEn_c, mEn_n, mcw_i, mcw_l, mcw_r, mcat_n, mcat_i, mcat_l, mcat_r, xlong_i, xlong_l, xlong_r, xlong_n, s1_at, s2_at, ↓reduceIte, reduceCtorEq, and_self, true_and, and_true, false_and, and_false, Bool.false_eq_true, ne_eq, not_true_eq_false, not_false_eq_true, or_true, true_or, or_false, false_or, or_self, Int.tmod_eq_emod_of_nonneg, Int.tdiv_eq_ediv_of_nonneg, Classical.not_not, xSw, rOK, b2i_ok, b2i_0, b2i_1, Nat.reduceAdd, Nat.reduceSub, Nat.reduceMul, Nat.reduceEqDiff, Nat.reduceLeDiff, Nat.reduceLT, Int.reduceAdd, Int.reduceSub, Int.reduceMul, Int.reduceNeg, Int.reduceEq, Int.reduceNe, Int.reduceLT, Int.reduceLE, Int.reduceToNat, Int.reduceTDiv, Int.reduceTMod, b2i_em, g0, g1, g2, h1, w, q]
        refine ih _ _ ⟨rfl, hs (fun _ => cz), ?_, ?_, ?_⟩
        all_goals simp [s1_at, s2_at, mEn_c, mcw_r, mcw_i, mcw_l, xlong_i, xlong_r, xlong_l, xlong_n, g0, g1, g2]
      · simp (disch := first | decide | omega) only [b96, w96_0, w96_1, w96_3, w96_4, w96_7, w96_10, w96_11, w96_12, w96_15, w96_18, w96_19, w96_22, w96_24, w96_25, w96_26, w96_27, w96_30, w96_31, w96_32, w96_35, w96_38, w96_39, tc2, tr2_2, tr2_3, tr2_4, tr2_5, tr2_6, tr2_7, tr2_8, tr2_9, tr2_12, tr2_13, tr2_15, ta3, tn3, ta4, tn4, ta5, tn5, ta6, tn6, ta7, tn7, ta8, tn8, ta9, tn9, ta10, tn10, ta11, tn11, ta12, tn12, ta13, tn13, xLoad_i, xLoad_l, xLoad_r, xInc_s, xBr_t, xBr_f, xNz_s, xGf_s, xPf_s, xPz_s, xLd_2, xLd_7, xLd_10, xLdb_3, xLdb_5, xLdb_9, xLdl_4, xLdr_6, xSt_2, xStl_4, xStb_3, xStb_5, xLen_s, xLen_10, xCpy_s, xIv_s, xMx_s, mCont_s, mCont_n, w32_s, w64_s, upC_e, upC_n, upC_u, upC_c, mEn_c, mEn_n, mcw_i, mcw_l, mcw_r, mcat_n, mcat_i, mcat_l, mcat_r, xlong_i, xlong_l, xlong_r, xlong_n, s1_at, s2_at, ↓reduceIte, reduceCtorEq, and_self, true_and, and_true, false_and, and_false, Bool.false_eq_true, ne_eq, not_true_eq_false, not_false_eq_true, or_true, true_or, or_false, false_or, or_self, Int.tmod_eq_emod_of_nonneg, Int.tdiv_eq_ediv_of_nonneg, Classical.not_not, xSw, rOK, b2i_ok, b2i_0, b2i_1, Nat.reduceAdd, Nat.reduceSub, Nat.reduceMul, Nat.reduceEqDiff, Nat.reduceLeDiff, Nat.reduceLT, Int.reduceAdd, Int.reduceSub, Int.reduceMul, Int.reduceNeg, Int.reduceEq, Int.reduceNe, Int.reduceLT, Int.reduceLE, Int.reduceToNat, Int.reduceTDiv, Int.reduceTMod, b2i_em, g0, g1, g2, h1, w, q, cz]
    · have w := fun (d : Nat) (M : mM) (K : mQ) => c_isI0 (d := d) (M := M) (K := K) c
      simp (disch := first | decide | omega) only [b96, w96_0, w96_1, w96_3, w96_4, w96_7, w96_10, w96_11, w96_12, w96_15, w96_18, w96_19, w96_22, w96_24, w96_25, w96_26, w96_27, w96_30, w96_31, w96_32, w96_35, w96_38, w96_39, tc2, tr2_2, tr2_3, tr2_4, tr2_5, tr2_6, tr2_7, tr2_8, tr2_9, tr2_12, tr2_13, tr2_15, ta3, tn3, ta4, tn4, ta5, tn5, ta6, tn6, ta7, tn7, ta8, tn8, ta9, tn9, ta10, tn10, ta11, tn11, ta12, tn12, ta13, tn13, xLoad_i, xLoad_l, xLoad_r, xInc_s, xBr_t, xBr_f, xNz_s, xGf_s, xPf_s, xPz_s, xLd_2, xLd_7, xLd_10, xLdb_3, xLdb_5, xLdb_9, xLdl_4, xLdr_6, xSt_2, xStl_4, xStb_3, xStb_5, xLen_s, xLen_10, xCpy_s, xIv_s, xMx_s, mCont_s, mCont_n, w32_s, w64_s, upC_e, upC_n, upC_u, upC_c, mEn_c, mEn_n, mcw_i, mcw_l, mcw_r, mcat_n, mcat_i, mcat_l, mcat_r, xlong_i, xlong_l, xlong_r, xlong_n, s1_at, s2_at, ↓reduceIte, reduceCtorEq, and_self, true_and, and_true, false_and, and_false, Bool.false_eq_true, ne_eq, not_true_eq_false, not_false_eq_true, or_true, true_or, or_false, false_or, or_self, Int.tmod_eq_emod_of_nonneg, Int.tdiv_eq_ediv_of_nonneg, Classical.not_not, xSw, rOK, b2i_ok, b2i_0, b2i_1, Nat.reduceAdd, Nat.reduceSub, Nat.reduceMul, Nat.reduceEqDiff, Nat.reduceLeDiff, Nat.reduceLT, Int.reduceAdd, Int.reduceSub, Int.reduceMul, Int.reduceNeg, Int.reduceEq, Int.reduceNe, Int.reduceLT, Int.reduceLE, Int.reduceToNat, Int.reduceTDiv, Int.reduceTMod, b2i_em, g0, g1, g2, h1, w]
      refine ih _ _ ⟨rfl, hs (fun g => absurd g c), ?_, ?_, ?_⟩
      all_goals simp [s1_at, s2_at, mEn_c, mcw_r, mcw_i, mcw_l, xlong_i, xlong_r, xlong_l, xlong_n, g0, g1, g2]
  · obtain ⟨rfl, ha, g0, g1, g2⟩ := hI
    exact absurd (fun i hi => ha _ (by have := hBR.2.2 i hi; omega) (BRs_in hBR hi).2) hu
