/-! rest: a turn -/
def w6 (x : Int) : Int := if x = -1 then 6 else x
theorem cF_c {A : Int → Int} {t1 t2 : Nat → Int} : ∀ n : Nat, (∀ b, b < n → t1 b = t2 b) → cF A t1 n = cF A t2 n
  | 0, _ => rfl
  | n + 1, h => by rw [cF_s, cF_s, cF_c n (fun b hb => h b (by omega)), h n (by omega)]
theorem chz_c {A : Int → Int} {t1 t2 : Nat → Int} {p : Int} (h : ∀ b, b < (A 0).toNat → t1 b = t2 b) : chz A t1 p = chz A t2 p := by
  unfold chz
  rw [cF_c _ h]
theorem chz_R {A : Int → Int} {tl : Nat → Int} {p : Int} (h0 : 0 ≤ A 0 ∧ A 0 ≤ 6) : -1 ≤ chz A tl p ∧ chz A tl p ≤ 5 := by
  have := cF_R (A := A) (tl := tl) (A 0).toNat
  unfold chz
  split <;> omega
def tS (ru : RU) (A : Int → Int) (L : List Nat) (n : Nat) (pl : Int → Int) : Nat → (Int → Int) × Int
  | 0 => (pl, 0)
  | k + 1 => (mU (tS ru A L n pl k).1 k (chz A (tpt ru A L n (mU (tS ru A L n pl k).1 k (-1)) (L.getD k 0)) (A (24 + 3 * (L.getD k 0 : Nat)))), if (tS ru A L n pl k).2 = 1 ∨ chz A (tpt ru A L n (mU (tS ru A L n pl k).1 k (-1)) (L.getD k 0)) (A (24 + 3 * (L.getD k 0 : Nat))) ≠ (tS ru A L n pl k).1 k then 1 else 0)
theorem tS_s {ru : RU} {A : Int → Int} {L : List Nat} {n k l : Nat} {pl : Int → Int} (hl : L.getD k 0 = l) : tS ru A L n pl (k + 1) = (mU (tS ru A L n pl k).1 k (chz A (tpt ru A L n (mU (tS ru A L n pl k).1 k (-1)) l) (A (24 + 3 * l))), if (tS ru A L n pl k).2 = 1 ∨ chz A (tpt ru A L n (mU (tS ru A L n pl k).1 k (-1)) l) (A (24 + 3 * l)) ≠ (tS ru A L n pl k).1 k then 1 else 0) := by
  subst hl
  rfl
theorem tpt_c {ru : RU} {A : Int → Int} {L : List Nat} {n l b : Nat} {p1 p2 : Int → Int} (h : ∀ i : Nat, i < n → (p1 i = b ↔ p2 i = b)) : tpt ru A L n p1 l b = tpt ru A L n p2 l b := by
  unfold tpt
  rw [wPt_c n h, cPt_c n h]
set_option maxHeartbeats 1000000 in
theorem c_turn {d n : Nat} {M : mM} {K : mQ} {A : Int → Int} {ru : RU} {L : List Nat} {pl : Int → Int} (h : CX M A ru) (hn : n ≤ 6) (h4 : M 94 4 = n) (hl : L.length = n) (hL : LO (M 95) L) (hl12 : ∀ i, i < n → L.getD i 0 < 12) (h8 : ∀ l : Nat, l < 12 → M 8 l = A (24 + 3 * l)) (hp : ∀ i : Nat, i < n → M 96 i = w6 (pl i) ∧ -1 ≤ pl i ∧ pl i ≤ 5) (hK : ∀ M', fr (96 :: SC) M M' → (∀ i : Nat, i < n → M' 96 i = w6 ((tS ru A L n pl n).1 i) ∧ -1 ≤ (tS ru A L n pl n).1 i ∧ (tS ru A L n pl n).1 i ≤ 5) → K (some (vi (tS ru A L n pl n).2)) M') : mCall (d + 8) 70 [vr 94] M K := by
  have b0 := h.2.2.2.1.1
  simp (disch := first | decide | omega) only [b70, w70_0, w70_1, w70_2, w70_3, w70_5, w70_6, w70_9, w70_12, w70_13, w70_16, w70_17, w70_18, w70_19, w70_20, w70_23, w70_24, w70_26, w70_27, w70_28, w70_31, w70_32, w70_33, w70_34, w70_37, w70_38, w70_39, w70_42, w70_43, w70_44, w70_47, w70_48, w70_49, w70_50, w70_53, w70_54, w70_55, w70_58, w70_61, w70_62, tc94, tr94_0, tr94_1, tr94_2, tr94_3, ta95, tn95, ta96, tn96, xLoad_i, xLoad_l, xLoad_r, xInc_s, xBr_t, xBr_f, xNz_s, xGf_s, xPf_s, xPz_s, xLd_2, xLd_7, xLd_10, xLdb_3, xLdb_5, xLdb_9, xLdl_4, xLdr_6, xSt_2, xStl_4, xStb_3, xStb_5, xLen_s, xLen_10, xCpy_s, xIv_s, xMx_s, mCont_s, mCont_n, w32_s, w64_s, upC_e, upC_n, upC_u, upC_c, mEn_c, mEn_n, mcw_i, mcw_l, mcw_r, mcat_n, mcat_i, mcat_l, mcat_r, xlong_i, xlong_l, xlong_r, xlong_n, s1_at, s2_at, ↓reduceIte, reduceCtorEq, and_self, true_and, and_true, false_and, and_false, Bool.false_eq_true, ne_eq, not_true_eq_false, not_false_eq_true, or_true, true_or, or_false, false_or, or_self, Int.tmod_eq_emod_of_nonneg, Int.tdiv_eq_ediv_of_nonneg, Classical.not_not, xSw, rOK, b2i_ok, b2i_0, b2i_1, Nat.reduceAdd, Nat.reduceSub, Nat.reduceMul, Nat.reduceEqDiff, Nat.reduceLeDiff, Nat.reduceLT, Int.reduceAdd, Int.reduceSub, Int.reduceMul, Int.reduceNeg, Int.reduceEq, Int.reduceNe, Int.reduceLT, Int.reduceLE, Int.reduceToNat, Int.reduceTDiv, Int.reduceTMod, b2i_em]
  refine loopL (P := fun k lv M' => fr (96 :: SC) M M' ∧ (∀ i : Nat, i < n → M' 96 i = w6 ((tS ru A L n pl k).1 i) ∧ -1 ≤ (tS ru A L n pl k).1 i ∧ (tS ru A L n pl k).1 i ≤ 5) ∧ ((tS ru A L n pl k).2 = 0 ∨ (tS ru A L n pl k).2 = 1) ∧ lv 0 = some (vr 94) ∧ lv 1 = some (vi (tS ru A L n pl k).2) ∧ lv 2 = some (vi (k : Nat))) (G := fun lv M' => rn (d + 7) 70 K 4 lv [] M') n 0 (Nat.zero_le _) _ _ ⟨fr_refl, hp, Or.inl rfl, ?_, ?_, ?_⟩ (fun k hk ih lv M' hI => ?_) (fun lv M' hI => ?_)
  any_goals (simp [s1_at, s2_at, mEn_c, mcw_r, mcw_i, mcw_l, xlong_i, xlong_r, xlong_l, xlong_n, tS]; done)
  · obtain ⟨hf, hq, h01, g0, g1, g2⟩ := hI
    have f94 : M' 94 4 = n := by rw [hf 94 (by decide), h4]
    have hX := CX_fr h hf (by decide)
    have hLk := hL k (by omega)
    have hlk := hl12 k hk
    obtain ⟨l, el⟩ : ∃ l, L.getD k 0 = l := ⟨_, rfl⟩
    rw [el] at hLk hlk
    have f95 : M' 95 = M 95 := hf 95 (by decide)
    have f8 : M' 8 l = A (24 + 3 * l) := by rw [hf 8 (by decide)]; exact h8 l hlk
    have hqk := hq k hk
    have hts := tS_s (ru := ru) (A := A) (n := n) (pl := pl) el
    have hR := chz_R (A := A) (tl := tpt ru A L n (mU (tS ru A L n pl k).1 k (-1)) l) (p := A (24 + 3 * l)) (by omega)
    have e2 : chz A (tpt ru A L n (mU (M' 96) k 6) l) (A (24 + 3 * l)) = chz A (tpt ru A L n (mU (tS ru A L n pl k).1 k (-1)) l) (A (24 + 3 * l)) := chz_c (fun b hb => tpt_c (fun i hi => by
      by_cases c : i = k
      · rw [c, mU_e, mU_e]; omega
      · rw [mU_n (by omega), mU_n (by omega), (hq i hi).1]
        have := (hq i hi).2
        unfold w6
        split <;> omega))
    have q96 : (upC M' 96 (mU (M' 96) k 6)) 96 = mU (M' 96) k 6 := upC_e
    rw [w70_4]
    simp (disch := first | decide | omega) only [b70, w70_0, w70_1, w70_2, w70_3, w70_5, w70_6, w70_9, w70_12, w70_13, w70_16, w70_17, w70_18, w70_19, w70_20, w70_23, w70_24, w70_26, w70_27, w70_28, w70_31, w70_32, w70_33, w70_34, w70_37, w70_38, w70_39, w70_42, w70_43, w70_44, w70_47, w70_48, w70_49, w70_50, w70_53, w70_54, w70_55, w70_58, w70_61, w70_62, tc94, tr94_0, tr94_1, tr94_2, tr94_3, ta95, tn95, ta96, tn96, xLoad_i, xLoad_l, xLoad_r, xInc_s, xBr_t, xBr_f, xNz_s, xGf_s, xPf_s, xPz_s, xLd_2, xLd_7, xLd_10, xLdb_3, xLdb_5, xLdb_9, xLdl_4, xLdr_6, xSt_2, xStl_4, xStb_3, xStb_5, xLen_s, xLen_10, xCpy_s, xIv_s, xMx_s, mCont_s, mCont_n, w32_s, w64_s, upC_e, upC_n, upC_u, upC_c, mEn_c, mEn_n, mcw_i, mcw_l, mcw_r, mcat_n, mcat_i, mcat_l, mcat_r, xlong_i, xlong_l, xlong_r, xlong_n, s1_at, s2_at, ↓reduceIte, reduceCtorEq, and_self, true_and, and_true, false_and, and_false, Bool.false_eq_true, ne_eq, not_true_eq_false, not_false_eq_true, or_true, true_or, or_false, false_or, or_self, Int.tmod_eq_emod_of_nonneg, Int.tdiv_eq_ediv_of_nonneg, Classical.not_not, xSw, rOK, b2i_ok, b2i_0, b2i_1, Nat.reduceAdd, Nat.reduceSub, Nat.reduceMul, Nat.reduceEqDiff, Nat.reduceLeDiff, Nat.reduceLT, Int.reduceAdd, Int.reduceSub, Int.reduceMul, Int.reduceNeg, Int.reduceEq, Int.reduceNe, Int.reduceLT, Int.reduceLE, Int.reduceToNat, Int.reduceTDiv, Int.reduceTMod, b2i_em, g0, g1, g2, f94, f95, hLk]
    refine c_cheapest (n := n) (A := A) (ru := ru) (L := L) (CX_fr hX (show fr [96] M' _ from fr_in (by decide)) (by decide)) hn (by simp (disch := first | decide | omega) only [upC_e, upC_n, mU_e, mU_n]; exact f94) hl (by simp (disch := first | decide | omega) only [upC_e, upC_n, mU_e, mU_n, f95]; exact hL) hl12 hlk (by simp (disch := first | decide | omega) only [upC_e, upC_n, mU_e, mU_n]; exact f8) (fun M1 f1 => ?_)
    rw [q96, e2]
    have g96 : M1 96 = mU (M' 96) k 6 := by rw [f1 96 (by decide), q96]
    have g95 : M1 95 = M' 95 := by rw [f1 95 (by decide)]; exact upC_n (by decide)
    have g94 : M1 94 = M' 94 := by rw [f1 94 (by decide)]; exact upC_n (by decide)
    have ff : fr (96 :: SC) M (upC M1 96 (mU (M1 96) k (w6 (chz A (tpt ru A L n (mU (tS ru A L n pl k).1 k (-1)) l) (A (24 + 3 * l)))))) := by
      intro c hc
      have c1 : c ≠ 96 := fun e => hc (by rw [e]; decide)
      rw [upC_n c1, f1 c (fun e => hc (List.mem_cons_of_mem _ e)), upC_n c1, hf c hc]
    have hq2 : ∀ i : Nat, i < n → (upC M1 96 (mU (M1 96) k (w6 (chz A (tpt ru A L n (mU (tS ru A L n pl k).1 k (-1)) l) (A (24 + 3 * l)))))) 96 i = w6 ((tS ru A L n pl (k + 1)).1 i) ∧ -1 ≤ (tS ru A L n pl (k + 1)).1 i ∧ (tS ru A L n pl (k + 1)).1 i ≤ 5 := fun i hi => by
      rw [upC_e, hts]
      dsimp only
      by_cases c : i = k
      · rw [c, mU_e, mU_e]
        exact ⟨rfl, hR⟩
      · rw [mU_n (by omega), mU_n (by omega), g96, mU_n (by omega)]
        exact hq i hi
    have h2 := congrArg Prod.snd hts
    dsimp only at h2
    have e6 : ∀ x : Int, (if x = -1 then 6 else x) = w6 x := fun _ => rfl
    by_cases c : chz A (tpt ru A L n (mU (tS ru A L n pl k).1 k (-1)) l) (A (24 + 3 * l)) = (tS ru A L n pl k).1 k
    · have e3 : (tS ru A L n pl (k + 1)).2 = (tS ru A L n pl k).2 := by
        rw [h2]
        rcases h01 with e | e
        · rw [e, if_neg (by rintro (x | x); omega; exact x c)]
        · rw [e, if_pos (Or.inl rfl)]
      have e4 : w6 (chz A (tpt ru A L n (mU (tS ru A L n pl k).1 k (-1)) l) (A (24 + 3 * l))) = M' 96 k := by rw [c, hqk.1]
      simp (disch := first | decide | omega) only [b70, w70_0, w70_1, w70_2, w70_3, w70_5, w70_6, w70_9, w70_12, w70_13, w70_16, w70_17, w70_18, w70_19, w70_20, w70_23, w70_24, w70_26, w70_27, w70_28, w70_31, w70_32, w70_33, w70_34, w70_37, w70_38, w70_39, w70_42, w70_43, w70_44, w70_47, w70_48, w70_49, w70_50, w70_53, w70_54, w70_55, w70_58, w70_61, w70_62, tc94, tr94_0, tr94_1, tr94_2, tr94_3, ta95, tn95, ta96, tn96, xLoad_i, xLoad_l, xLoad_r, xInc_s, xBr_t, xBr_f, xNz_s, xGf_s, xPf_s, xPz_s, xLd_2, xLd_7, xLd_10, xLdb_3, xLdb_5, xLdb_9, xLdl_4, xLdr_6, xSt_2, xStl_4, xStb_3, xStb_5, xLen_s, xLen_10, xCpy_s, xIv_s, xMx_s, mCont_s, mCont_n, w32_s, w64_s, upC_e, upC_n, upC_u, upC_c, mEn_c, mEn_n, mcw_i, mcw_l, mcw_r, mcat_n, mcat_i, mcat_l, mcat_r, xlong_i, xlong_l, xlong_r, xlong_n, s1_at, s2_at, ↓reduceIte, reduceCtorEq, and_self, true_and, and_true, false_and, and_false, Bool.false_eq_true, ne_eq, not_true_eq_false, not_false_eq_true, or_true, true_or, or_false, false_or, or_self, Int.tmod_eq_emod_of_nonneg, Int.tdiv_eq_ediv_of_nonneg, Classical.not_not, xSw, rOK, b2i_ok, b2i_0, b2i_1, Nat.reduceAdd, Nat.reduceSub, Nat.reduceMul, Nat.reduceEqDiff, Nat.reduceLeDiff, Nat.reduceLT, Int.reduceAdd, Int.reduceSub, Int.reduceMul, Int.reduceNeg, Int.reduceEq, Int.reduceNe, Int.reduceLT, Int.reduceLE, Int.reduceToNat, Int.reduceTDiv, Int.reduceTMod, b2i_em, g0, g1, g2, e6, e4, mU_e]
      refine ih _ _ ⟨by rw [e4] at ff; exact ff, by rw [e4] at hq2; exact hq2, by rw [e3]; exact h01, ?_, ?_, ?_⟩
      all_goals simp [s1_at, s2_at, mEn_c, mcw_r, mcw_i, mcw_l, xlong_i, xlong_r, xlong_l, xlong_n, g0, g1, g2, e3]
    · have e3 : (tS ru A L n pl (k + 1)).2 = 1 := by rw [h2, if_pos (Or.inr c)]
      have e4 : ¬ (w6 (chz A (tpt ru A L n (mU (tS ru A L n pl k).1 k (-1)) l) (A (24 + 3 * l))) = M' 96 k) := by
        rw [hqk.1]
        have := hqk.2
        unfold w6
        split <;> split <;> omega
      simp (disch := first | decide | omega) only [b70, w70_0, w70_1, w70_2, w70_3, w70_5, w70_6, w70_9, w70_12, w70_13, w70_16, w70_17, w70_18, w70_19, w70_20, w70_23, w70_24, w70_26, w70_27, w70_28, w70_31, w70_32, w70_33, w70_34, w70_37, w70_38, w70_39, w70_42, w70_43, w70_44, w70_47, w70_48, w70_49, w70_50, w70_53, w70_54, w70_55, w70_58, w70_61, w70_62, tc94, tr94_0, tr94_1, tr94_2, tr94_3, ta95, tn95, ta96, tn96, xLoad_i, xLoad_l, xLoad_r, xInc_s, xBr_t, xBr_f, xNz_s, xGf_s, xPf_s, xPz_s, xLd_2, xLd_7, xLd_10, xLdb_3, xLdb_5, xLdb_9, xLdl_4, xLdr_6, xSt_2, xStl_4, xStb_3, xStb_5, xLen_s, xLen_10, xCpy_s, xIv_s, xMx_s, mCont_s, mCont_n, w32_s, w64_s, upC_e, upC_n, upC_u, upC_c, mEn_c, mEn_n, mcw_i, mcw_l, mcw_r, mcat_n, mcat_i, mcat_l, mcat_r, xlong_i, xlong_l, xlong_r, xlong_n, s1_at, s2_at, ↓reduceIte, reduceCtorEq, and_self, true_and, and_true, false_and, and_false, Bool.false_eq_true, ne_eq, not_true_eq_false, not_false_eq_true, or_true, true_or, or_false, false_or, or_self, Int.tmod_eq_emod_of_nonneg, Int.tdiv_eq_ediv_of_nonneg, Classical.not_not, xSw, rOK, b2i_ok, b2i_0, b2i_1, Nat.reduceAdd, Nat.reduceSub, Nat.reduceMul, Nat.reduceEqDiff, Nat.reduceLeDiff, Nat.reduceLT, Int.reduceAdd, Int.reduceSub, Int.reduceMul, Int.reduceNeg, Int.reduceEq, Int.reduceNe, Int.reduceLT, Int.reduceLE, Int.reduceToNat, Int.reduceTDiv, Int.reduceTMod, b2i_em, g0, g1, g2, e6, e4, mU_e]
      refine ih _ _ ⟨ff, hq2, Or.inr e3, ?_, ?_, ?_⟩
      all_goals simp [s1_at, s2_at, mEn_c, mcw_r, mcw_i, mcw_l, xlong_i, xlong_r, xlong_l, xlong_n, g0, g1, g2, e3]
  · obtain ⟨hf, hq, h01, g0, g1, g2⟩ := hI
    have f94 : M' 94 4 = n := by rw [hf 94 (by decide), h4]
    have hr := hK M' hf hq
    rw [w70_4]
    simp (disch := first | decide | omega) only [b70, w70_0, w70_1, w70_2, w70_3, w70_5, w70_6, w70_9, w70_12, w70_13, w70_16, w70_17, w70_18, w70_19, w70_20, w70_23, w70_24, w70_26, w70_27, w70_28, w70_31, w70_32, w70_33, w70_34, w70_37, w70_38, w70_39, w70_42, w70_43, w70_44, w70_47, w70_48, w70_49, w70_50, w70_53, w70_54, w70_55, w70_58, w70_61, w70_62, tc94, tr94_0, tr94_1, tr94_2, tr94_3, ta95, tn95, ta96, tn96, xLoad_i, xLoad_l, xLoad_r, xInc_s, xBr_t, xBr_f, xNz_s, xGf_s, xPf_s, xPz_s, xLd_2, xLd_7, xLd_10, xLdb_3, xLdb_5, xLdb_9, xLdl_4, xLdr_6, xSt_2, xStl_4, xStb_3, xStb_5, xLen_s, xLen_10, xCpy_s, xIv_s, xMx_s, mCont_s, mCont_n, w32_s, w64_s, upC_e, upC_n, upC_u, upC_c, mEn_c, mEn_n, mcw_i, mcw_l, mcw_r, mcat_n, mcat_i, mcat_l, mcat_r, xlong_i, xlong_l, xlong_r, xlong_n, s1_at, s2_at, ↓reduceIte, reduceCtorEq, and_self, true_and, and_true, false_and, and_false, Bool.false_eq_true, ne_eq, not_true_eq_false, not_false_eq_true, or_true, true_or, or_false, false_or, or_self, Int.tmod_eq_emod_of_nonneg, Int.tdiv_eq_ediv_of_nonneg, Classical.not_not, xSw, rOK, b2i_ok, b2i_0, b2i_1, Nat.reduceAdd, Nat.reduceSub, Nat.reduceMul, Nat.reduceEqDiff, Nat.reduceLeDiff, Nat.reduceLT, Int.reduceAdd, Int.reduceSub, Int.reduceMul, Int.reduceNeg, Int.reduceEq, Int.reduceNe, Int.reduceLT, Int.reduceLE, Int.reduceToNat, Int.reduceTDiv, Int.reduceTMod, b2i_em, g0, g1, g2, f94]
    exact ⟨h01, hr⟩
