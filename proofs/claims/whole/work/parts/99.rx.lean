/-! a choice: the class, the cheapest -/
set_option maxHeartbeats 4000000 in
theorem c_dropClashing {d n C : Nat} {M : mM} {K : mQ} {A F : Int → Int} {ru : RU} {L : List Nat} {sh s : Int} {AL : Nat → Nat → Bool} (hX : CX M A ru) (hC : CHs L F n C sh AL M) (hF : ∀ j : Nat, j < 244 → 0 ≤ F j ∧ F j ≤ 999) (hn : n ≤ 4) (hC61 : C ≤ 61) (hl : L.length = n) (hl6 : ∀ i, i < n → L.getD i 0 < 6) (hALC : ∀ i o, C ≤ o → AL i o = false) (h64 : ∀ b : Nat, (b : Int) < A 0 → M 64 b = ntA ru A b) (hK : ∀ M', fr (78 :: SC) M M' → CHs L F n C sh (fun i o => AL i o && dcB ru A s L F i o (A 0).toNat) M' → K none M') : mCall (d + 6) 6 [vr 74, vi s] M K := by
  have b0 := hX.2.2.2.1.1
  obtain ⟨c7, c8, c9, c75, c77, c78⟩ := hC
  simp (disch := first | decide | omega) only [b6, w6_0, w6_1, w6_3, w6_4, w6_7, w6_10, w6_11, w6_13, w6_14, w6_17, w6_20, w6_23, w6_24, w6_25, w6_28, w6_31, w6_32, w6_35, w6_38, w6_39, w6_42, w6_43, w6_44, w6_45, w6_46, w6_49, w6_52, w6_55, w6_56, w6_60, w6_61, w6_64, w6_67, w6_68, w6_71, w6_72, w6_75, w6_76, w6_78, w6_79, w6_81, w6_82, w6_83, w6_84, w6_87, w6_90, w6_91, w6_92, w6_95, w6_98, w6_99, w6_102, w6_103, w6_104, w6_105, w6_106, w6_108, w6_109, w6_112, w6_113, w6_114, w6_115, w6_118, w6_121, w6_124, w6_127, w6_130, w6_133, tc74, tr74_0, tr74_1, tr74_2, tr74_3, tr74_4, tr74_5, tr74_6, ta75, tn75, ta76, tn76, ta77, tn77, ta78, tn78, ta79, tn79, tc2, tr2_2, tr2_3, tr2_4, tr2_5, tr2_6, tr2_7, tr2_8, tr2_9, tr2_12, tr2_13, tr2_15, ta3, tn3, ta4, tn4, ta5, tn5, ta6, tn6, ta7, tn7, ta8, tn8, ta9, tn9, ta10, tn10, ta11, tn11, ta12, tn12, ta13, tn13, xLoad_i, xLoad_l, xLoad_r, xInc_s, xBr_t, xBr_f, xNz_s, xGf_s, xPf_s, xPz_s, xLd_2, xLd_7, xLd_10, xLdb_3, xLdb_5, xLdb_9, xLdl_4, xLdr_6, xSt_2, xStl_4, xStb_3, xStb_5, xLen_s, xLen_10, xCpy_s, xIv_s, xMx_s, mCont_s, mCont_n, w32_s, w64_s, upC_e, upC_n, upC_u, upC_c, mEn_c, mEn_n, mcw_i, mcw_l, mcw_r, mcat_n, mcat_i, mcat_l, mcat_r, xlong_i, xlong_l, xlong_r, xlong_n, s1_at, s2_at, ↓reduceIte, reduceCtorEq, and_self, true_and, and_true, false_and, and_false, Bool.false_eq_true, ne_eq, not_true_eq_false, not_false_eq_true, or_true, true_or, or_false, false_or, or_self, Int.tmod_eq_emod_of_nonneg, Int.tdiv_eq_ediv_of_nonneg, Classical.not_not, xSw, rOK, b2i_ok, b2i_0, b2i_1, Nat.reduceAdd, Nat.reduceSub, Nat.reduceMul, Nat.reduceEqDiff, Nat.reduceLeDiff, Nat.reduceLT, Int.reduceAdd, Int.reduceSub, Int.reduceMul, Int.reduceNeg, Int.reduceEq, Int.reduceNe, Int.reduceLT, Int.reduceLE, Int.reduceToNat, Int.reduceTDiv, Int.reduceTMod, b2i_em]
  refine loopL (P := fun i lv M' => fr (78 :: SC) M M' ∧ (∀ j : Nat, j < n → (j < i → BT (M' 78 j) (fun o => AL j o && dcB ru A s L F j o (A 0).toNat)) ∧ (i ≤ j → BT (M' 78 j) (AL j))) ∧ lv 0 = some (vr 74) ∧ lv 1 = some (vi s) ∧ lv 2 = some (vi (i : Nat))) (G := fun lv M' => rn (d + 5) 6 K 2 lv [] M') n 0 (Nat.zero_le _) _ _ ⟨fr_refl, fun j hj => ⟨fun h => absurd h (by omega), fun _ => c78 j hj⟩, ?_, ?_, ?_⟩ (fun i hi ih lv M' hI => ?_) (fun lv M' hI => ?_)
  any_goals (simp [s1_at, s2_at, mEn_c, mcw_r, mcw_i, mcw_l, xlong_i, xlong_r, xlong_l, xlong_n]; done)
  · obtain ⟨hf, hb, g0, g1, g2⟩ := hI
    have k7 : M' 74 7 = n := by rw [hf 74 (by decide), c7]
    rw [w6_2]
    simp (disch := first | decide | omega) only [b6, w6_0, w6_1, w6_3, w6_4, w6_7, w6_10, w6_11, w6_13, w6_14, w6_17, w6_20, w6_23, w6_24, w6_25, w6_28, w6_31, w6_32, w6_35, w6_38, w6_39, w6_42, w6_43, w6_44, w6_45, w6_46, w6_49, w6_52, w6_55, w6_56, w6_60, w6_61, w6_64, w6_67, w6_68, w6_71, w6_72, w6_75, w6_76, w6_78, w6_79, w6_81, w6_82, w6_83, w6_84, w6_87, w6_90, w6_91, w6_92, w6_95, w6_98, w6_99, w6_102, w6_103, w6_104, w6_105, w6_106, w6_108, w6_109, w6_112, w6_113, w6_114, w6_115, w6_118, w6_121, w6_124, w6_127, w6_130, w6_133, tc74, tr74_0, tr74_1, tr74_2, tr74_3, tr74_4, tr74_5, tr74_6, ta75, tn75, ta76, tn76, ta77, tn77, ta78, tn78, ta79, tn79, tc2, tr2_2, tr2_3, tr2_4, tr2_5, tr2_6, tr2_7, tr2_8, tr2_9, tr2_12, tr2_13, tr2_15, ta3, tn3, ta4, tn4, ta5, tn5, ta6, tn6, ta7, tn7, ta8, tn8, ta9, tn9, ta10, tn10, ta11, tn11, ta12, tn12, ta13, tn13, xLoad_i, xLoad_l, xLoad_r, xInc_s, xBr_t, xBr_f, xNz_s, xGf_s, xPf_s, xPz_s, xLd_2, xLd_7, xLd_10, xLdb_3, xLdb_5, xLdb_9, xLdl_4, xLdr_6, xSt_2, xStl_4, xStb_3, xStb_5, xLen_s, xLen_10, xCpy_s, xIv_s, xMx_s, mCont_s, mCont_n, w32_s, w64_s, upC_e, upC_n, upC_u, upC_c, mEn_c, mEn_n, mcw_i, mcw_l, mcw_r, mcat_n, mcat_i, mcat_l, mcat_r, xlong_i, xlong_l, xlong_r, xlong_n, s1_at, s2_at, ↓reduceIte, reduceCtorEq, and_self, true_and, and_true, false_and, and_false, Bool.false_eq_true, ne_eq, not_true_eq_false, not_false_eq_true, or_true, true_or, or_false, false_or, or_self, Int.tmod_eq_emod_of_nonneg, Int.tdiv_eq_ediv_of_nonneg, Classical.not_not, xSw, rOK, b2i_ok, b2i_0, b2i_1, Nat.reduceAdd, Nat.reduceSub, Nat.reduceMul, Nat.reduceEqDiff, Nat.reduceLeDiff, Nat.reduceLT, Int.reduceAdd, Int.reduceSub, Int.reduceMul, Int.reduceNeg, Int.reduceEq, Int.reduceNe, Int.reduceLT, Int.reduceLE, Int.reduceToNat, Int.reduceTDiv, Int.reduceTMod, b2i_em, g0, g1, g2, k7]
    refine loopL (P := fun b lv M2 => fr (78 :: SC) M M2 ∧ (∀ j : Nat, j ≠ i → M2 78 j = M' 78 j) ∧ BT (M2 78 i) (fun o => AL i o && dcB ru A s L F i o b) ∧ lv 0 = some (vr 74) ∧ lv 1 = some (vi s) ∧ lv 2 = some (vi (i : Nat)) ∧ lv 3 = some (vi (b : Nat))) (G := fun lv M' => rn (d + 5) 6 K 12 lv [] M') (A 0).toNat 0 (Nat.zero_le _) _ _ ⟨hf, fun _ _ => rfl, BT_c ((hb i hi).2 (Nat.le_refl _)) (fun o _ => by simp [dcB]), ?_, ?_, ?_, ?_⟩ (fun b hbA ih2 lv M2 hI => ?_) (fun lv M2 hI => ?_)
    any_goals (simp [s1_at, s2_at, mEn_c, mcw_r, mcw_i, mcw_l, xlong_i, xlong_r, xlong_l, xlong_n, g0, g1, g2]; done)
    · obtain ⟨hf2, hoth, hbt, g0, g1, g2, g3⟩ := hI
      have hX2 := CX_fr hX hf2 (by decide)
      have f20 : M2 2 0 = A 0 := hX2.1.1
      have l1 := hl6 i hi
      have q1 := c75 i (by omega)
      rw [← hf2 75 (by decide)] at q1
      have q5 := (hX2.1.2.2.1 _ l1).2
      rw [show 2 + 3 = 5 from rfl] at q5
      have n2 : M2 64 b = ntA ru A b := by rw [hf2 64 (by decide)]; exact h64 b (by omega)
      have hsame : ¬ dcC ru A s L i b → BT (M2 78 i) (fun o => AL i o && dcB ru A s L F i o (b + 1)) := fun h => BT_c hbt (fun o _ => by
        rw [dcB_s, dcO_t.mpr (fun g => h g.1), Bool.and_true])
      rw [w6_12]
      by_cases c1 : isI s b
      · have u1 := fun (d : Nat) (M : mM) (K : mQ) => c_isI1 (d := d) (M := M) (K := K) c1
        simp (disch := first | decide | omega) only [b6, w6_0, w6_1, w6_3, w6_4, w6_7, w6_10, w6_11, w6_13, w6_14, w6_17, w6_20, w6_23, w6_24, w6_25, w6_28, w6_31, w6_32, w6_35, w6_38, w6_39, w6_42, w6_43, w6_44, w6_45, w6_46, w6_49, w6_52, w6_55, w6_56, w6_60, w6_61, w6_64, w6_67, w6_68, w6_71, w6_72, w6_75, w6_76, w6_78, w6_79, w6_81, w6_82, w6_83, w6_84, w6_87, w6_90, w6_91, w6_92, w6_95, w6_98, w6_99, w6_102, w6_103, w6_104, w6_105, w6_106, w6_108, w6_109, w6_112, w6_113, w6_114, w6_115, w6_118, w6_121, w6_124, w6_127, w6_130, w6_133, tc74, tr74_0, tr74_1, tr74_2, tr74_3, tr74_4, tr74_5, tr74_6, ta75, tn75, ta76, tn76, ta77, tn77, ta78, tn78, ta79, tn79, tc2, tr2_2, tr2_3, tr2_4, tr2_5, tr2_6, tr2_7, tr2_8, tr2_9, tr2_12, tr2_13, tr2_15, ta3, tn3, ta4, tn4, ta5, tn5, ta6, tn6, ta7, tn7, ta8, tn8, ta9, tn9, ta10, tn10, ta11, tn11, ta12, tn12, ta13, tn13, xLoad_i, xLoad_l, xLoad_r, xInc_s, xBr_t, xBr_f, xNz_s, xGf_s, xPf_s, xPz_s, xLd_2, xLd_7, xLd_10, xLdb_3, xLdb_5, xLdb_9, xLdl_4, xLdr_6, xSt_2, xStl_4, xStb_3, xStb_5, xLen_s, xLen_10, xCpy_s, xIv_s, xMx_s, mCont_s, mCont_n, w32_s, w64_s, upC_e, upC_n, upC_u, upC_c, mEn_c, mEn_n, mcw_i, mcw_l, mcw_r, mcat_n, mcat_i, mcat_l, mcat_r, xlong_i, xlong_l, xlong_r, xlong_n, s1_at, s2_at, ↓reduceIte, reduceCtorEq, and_self, true_and, and_true, false_and, and_false, Bool.false_eq_true, ne_eq, not_true_eq_false, not_false_eq_true, or_true, true_or, or_false, false_or, or_self, Int.tmod_eq_emod_of_nonneg, Int.tdiv_eq_ediv_of_nonneg, Classical.not_not, xSw, rOK, b2i_ok, b2i_0, b2i_1, Nat.reduceAdd, Nat.reduceSub, Nat.reduceMul, Nat.reduceEqDiff, Nat.reduceLeDiff, Nat.reduceLT, Int.reduceAdd, Int.reduceSub, Int.reduceMul, Int.reduceNeg, Int.reduceEq, Int.reduceNe, Int.reduceLT, Int.reduceLE, Int.reduceToNat, Int.reduceTDiv, Int.reduceTMod, b2i_em, g0, g1, g2, g3, f20, u1]
        refine ih2 _ _ ⟨hf2, hoth, hsame (fun g => g.1 c1), ?_, ?_, ?_, ?_⟩
        all_goals simp [s1_at, s2_at, mEn_c, mcw_r, mcw_i, mcw_l, xlong_i, xlong_r, xlong_l, xlong_n, g0, g1, g2, g3]
      · have u1 := fun (d : Nat) (M : mM) (K : mQ) => c_isI0 (d := d) (M := M) (K := K) c1
        by_cases c3 : iAnd (iShr (A (16 + (L.getD i 0 : Nat))) b) 1 = 1
        · have hdc : dcC ru A s L i b := ⟨c1, c3⟩
          have u3 := fun (d : Nat) (M : mM) (K : mQ) => c_isI1 (s := A (16 + (L.getD i 0 : Nat))) (n := (b : Nat)) (d := d) (M := M) (K := K) ⟨by omega, by omega, c3⟩
          simp (disch := first | decide | omega) only [b6, w6_0, w6_1, w6_3, w6_4, w6_7, w6_10, w6_11, w6_13, w6_14, w6_17, w6_20, w6_23, w6_24, w6_25, w6_28, w6_31, w6_32, w6_35, w6_38, w6_39, w6_42, w6_43, w6_44, w6_45, w6_46, w6_49, w6_52, w6_55, w6_56, w6_60, w6_61, w6_64, w6_67, w6_68, w6_71, w6_72, w6_75, w6_76, w6_78, w6_79, w6_81, w6_82, w6_83, w6_84, w6_87, w6_90, w6_91, w6_92, w6_95, w6_98, w6_99, w6_102, w6_103, w6_104, w6_105, w6_106, w6_108, w6_109, w6_112, w6_113, w6_114, w6_115, w6_118, w6_121, w6_124, w6_127, w6_130, w6_133, tc74, tr74_0, tr74_1, tr74_2, tr74_3, tr74_4, tr74_5, tr74_6, ta75, tn75, ta76, tn76, ta77, tn77, ta78, tn78, ta79, tn79, tc2, tr2_2, tr2_3, tr2_4, tr2_5, tr2_6, tr2_7, tr2_8, tr2_9, tr2_12, tr2_13, tr2_15, ta3, tn3, ta4, tn4, ta5, tn5, ta6, tn6, ta7, tn7, ta8, tn8, ta9, tn9, ta10, tn10, ta11, tn11, ta12, tn12, ta13, tn13, xLoad_i, xLoad_l, xLoad_r, xInc_s, xBr_t, xBr_f, xNz_s, xGf_s, xPf_s, xPz_s, xLd_2, xLd_7, xLd_10, xLdb_3, xLdb_5, xLdb_9, xLdl_4, xLdr_6, xSt_2, xStl_4, xStb_3, xStb_5, xLen_s, xLen_10, xCpy_s, xIv_s, xMx_s, mCont_s, mCont_n, w32_s, w64_s, upC_e, upC_n, upC_u, upC_c, mEn_c, mEn_n, mcw_i, mcw_l, mcw_r, mcat_n, mcat_i, mcat_l, mcat_r, xlong_i, xlong_l, xlong_r, xlong_n, s1_at, s2_at, ↓reduceIte, reduceCtorEq, and_self, true_and, and_true, false_and, and_false, Bool.false_eq_true, ne_eq, not_true_eq_false, not_false_eq_true, or_true, true_or, or_false, false_or, or_self, Int.tmod_eq_emod_of_nonneg, Int.tdiv_eq_ediv_of_nonneg, Classical.not_not, xSw, rOK, b2i_ok, b2i_0, b2i_1, Nat.reduceAdd, Nat.reduceSub, Nat.reduceMul, Nat.reduceEqDiff, Nat.reduceLeDiff, Nat.reduceLT, Int.reduceAdd, Int.reduceSub, Int.reduceMul, Int.reduceNeg, Int.reduceEq, Int.reduceNe, Int.reduceLT, Int.reduceLE, Int.reduceToNat, Int.reduceTDiv, Int.reduceTMod, b2i_em, g0, g1, g2, g3, f20, u1, q1, q5, u3]
          refine loopL (P := fun o lv M3 => fr (78 :: SC) M M3 ∧ (∀ j : Nat, j ≠ i → M3 78 j = M' 78 j) ∧ BT (M3 78 i) (fun q => AL i q && (dcB ru A s L F i q b && (decide (o ≤ q) || dcO ru A s L F i q b))) ∧ lv 0 = some (vr 74) ∧ lv 1 = some (vi s) ∧ lv 2 = some (vi (i : Nat)) ∧ lv 3 = some (vi (b : Nat)) ∧ lv 4 = some (vi (o : Nat))) (G := fun lv M' => rn (d + 5) 6 K 58 lv [] M') C 0 (Nat.zero_le _) _ _ ⟨hf2, hoth, BT_c hbt (fun o _ => by simp), ?_, ?_, ?_, ?_, ?_⟩ (fun o ho ih3 lv M3 hI => ?_) (fun lv M3 hI => ?_)
          any_goals (simp [s1_at, s2_at, mEn_c, mcw_r, mcw_i, mcw_l, xlong_i, xlong_r, xlong_l, xlong_n, g0, g1, g2, g3]; done)
          · obtain ⟨hf3, hoth3, hbt3, g0, g1, g2, g3, g4⟩ := hI
            have hX3 := CX_fr hX hf3 (by decide)
            have k8 : M3 74 8 = C := by rw [hf3 74 (by decide), c8]
            have k77 : M3 77 = F := by rw [hf3 77 (by decide), c77]
            have n3 : M3 64 b = ntA ru A b := by rw [hf3 64 (by decide)]; exact h64 b (by omega)
            have hFo : 0 ≤ F ((i : Int) * 61 + o) ∧ F ((i : Int) * 61 + o) ≤ 999 := by
              have := hF (i * 61 + o) (by omega)
              rw [show ((i * 61 + o : Nat) : Int) = (i : Int) * 61 + o by omega] at this
              exact this
            rw [w6_58]
            simp (disch := first | decide | omega) only [b6, w6_0, w6_1, w6_3, w6_4, w6_7, w6_10, w6_11, w6_13, w6_14, w6_17, w6_20, w6_23, w6_24, w6_25, w6_28, w6_31, w6_32, w6_35, w6_38, w6_39, w6_42, w6_43, w6_44, w6_45, w6_46, w6_49, w6_52, w6_55, w6_56, w6_60, w6_61, w6_64, w6_67, w6_68, w6_71, w6_72, w6_75, w6_76, w6_78, w6_79, w6_81, w6_82, w6_83, w6_84, w6_87, w6_90, w6_91, w6_92, w6_95, w6_98, w6_99, w6_102, w6_103, w6_104, w6_105, w6_106, w6_108, w6_109, w6_112, w6_113, w6_114, w6_115, w6_118, w6_121, w6_124, w6_127, w6_130, w6_133, tc74, tr74_0, tr74_1, tr74_2, tr74_3, tr74_4, tr74_5, tr74_6, ta75, tn75, ta76, tn76, ta77, tn77, ta78, tn78, ta79, tn79, tc2, tr2_2, tr2_3, tr2_4, tr2_5, tr2_6, tr2_7, tr2_8, tr2_9, tr2_12, tr2_13, tr2_15, ta3, tn3, ta4, tn4, ta5, tn5, ta6, tn6, ta7, tn7, ta8, tn8, ta9, tn9, ta10, tn10, ta11, tn11, ta12, tn12, ta13, tn13, tc63, tr63_0, tr63_1, tr63_3, tr63_4, tr63_5, tr63_6, ta64, tn64, ta65, tn65, ta66, tn66, ta67, tn67, xLoad_i, xLoad_l, xLoad_r, xInc_s, xBr_t, xBr_f, xNz_s, xGf_s, xPf_s, xPz_s, xLd_2, xLd_7, xLd_10, xLdb_3, xLdb_5, xLdb_9, xLdl_4, xLdr_6, xSt_2, xStl_4, xStb_3, xStb_5, xLen_s, xLen_10, xCpy_s, xIv_s, xMx_s, mCont_s, mCont_n, w32_s, w64_s, upC_e, upC_n, upC_u, upC_c, mEn_c, mEn_n, mcw_i, mcw_l, mcw_r, mcat_n, mcat_i, mcat_l, mcat_r, xlong_i, xlong_l, xlong_r, xlong_n, s1_at, s2_at, ↓reduceIte, reduceCtorEq, and_self, true_and, and_true, false_and, and_false, Bool.false_eq_true, ne_eq, not_true_eq_false, not_false_eq_true, or_true, true_or, or_false, false_or, or_self, Int.tmod_eq_emod_of_nonneg, Int.tdiv_eq_ediv_of_nonneg, Classical.not_not, xSw, rOK, b2i_ok, b2i_0, b2i_1, Nat.reduceAdd, Nat.reduceSub, Nat.reduceMul, Nat.reduceEqDiff, Nat.reduceLeDiff, Nat.reduceLT, Int.reduceAdd, Int.reduceSub, Int.reduceMul, Int.reduceNeg, Int.reduceEq, Int.reduceNe, Int.reduceLT, Int.reduceLE, Int.reduceToNat, Int.reduceTDiv, Int.reduceTMod, b2i_em, g0, g1, g2, g3, g4, k8, k77, n3]
            refine a_clash hX3 hFo ntA_R (fun M4 f4 => ?_)
            have f14 : fr (78 :: SC) M M4 := fr_trans hf3 (fr_mono f4 (by decide))
            have e78 : M4 78 = M3 78 := f4 78 (by decide)
            rcases (clI_01 : clI (ru 1) (A 80) (A 81) (F ((i : Int) * 61 + o)) (ntA ru A b) = 0 ∨ _) with hz | hz
            · have hdo : dcO ru A s L F i o b = true := dcO_t.mpr (fun g => by have := g.2; omega)
              rw [hz]
              simp (disch := first | decide | omega) only [b6, w6_0, w6_1, w6_3, w6_4, w6_7, w6_10, w6_11, w6_13, w6_14, w6_17, w6_20, w6_23, w6_24, w6_25, w6_28, w6_31, w6_32, w6_35, w6_38, w6_39, w6_42, w6_43, w6_44, w6_45, w6_46, w6_49, w6_52, w6_55, w6_56, w6_60, w6_61, w6_64, w6_67, w6_68, w6_71, w6_72, w6_75, w6_76, w6_78, w6_79, w6_81, w6_82, w6_83, w6_84, w6_87, w6_90, w6_91, w6_92, w6_95, w6_98, w6_99, w6_102, w6_103, w6_104, w6_105, w6_106, w6_108, w6_109, w6_112, w6_113, w6_114, w6_115, w6_118, w6_121, w6_124, w6_127, w6_130, w6_133, tc74, tr74_0, tr74_1, tr74_2, tr74_3, tr74_4, tr74_5, tr74_6, ta75, tn75, ta76, tn76, ta77, tn77, ta78, tn78, ta79, tn79, tc2, tr2_2, tr2_3, tr2_4, tr2_5, tr2_6, tr2_7, tr2_8, tr2_9, tr2_12, tr2_13, tr2_15, ta3, tn3, ta4, tn4, ta5, tn5, ta6, tn6, ta7, tn7, ta8, tn8, ta9, tn9, ta10, tn10, ta11, tn11, ta12, tn12, ta13, tn13, tc63, tr63_0, tr63_1, tr63_3, tr63_4, tr63_5, tr63_6, ta64, tn64, ta65, tn65, ta66, tn66, ta67, tn67, xLoad_i, xLoad_l, xLoad_r, xInc_s, xBr_t, xBr_f, xNz_s, xGf_s, xPf_s, xPz_s, xLd_2, xLd_7, xLd_10, xLdb_3, xLdb_5, xLdb_9, xLdl_4, xLdr_6, xSt_2, xStl_4, xStb_3, xStb_5, xLen_s, xLen_10, xCpy_s, xIv_s, xMx_s, mCont_s, mCont_n, w32_s, w64_s, upC_e, upC_n, upC_u, upC_c, mEn_c, mEn_n, mcw_i, mcw_l, mcw_r, mcat_n, mcat_i, mcat_l, mcat_r, xlong_i, xlong_l, xlong_r, xlong_n, s1_at, s2_at, ↓reduceIte, reduceCtorEq, and_self, true_and, and_true, false_and, and_false, Bool.false_eq_true, ne_eq, not_true_eq_false, not_false_eq_true, or_true, true_or, or_false, false_or, or_self, Int.tmod_eq_emod_of_nonneg, Int.tdiv_eq_ediv_of_nonneg, Classical.not_not, xSw, rOK, b2i_ok, b2i_0, b2i_1, Nat.reduceAdd, Nat.reduceSub, Nat.reduceMul, Nat.reduceEqDiff, Nat.reduceLeDiff, Nat.reduceLT, Int.reduceAdd, Int.reduceSub, Int.reduceMul, Int.reduceNeg, Int.reduceEq, Int.reduceNe, Int.reduceLT, Int.reduceLE, Int.reduceToNat, Int.reduceTDiv, Int.reduceTMod, b2i_em, g0, g1, g2, g3, g4]
              refine ih3 _ _ ⟨f14, fun j hj => by rw [e78, hoth3 j hj], BT_c (by rw [e78]; exact hbt3) (fun q _ => ?_), ?_, ?_, ?_, ?_, ?_⟩
              any_goals (simp [s1_at, s2_at, mEn_c, mcw_r, mcw_i, mcw_l, xlong_i, xlong_r, xlong_l, xlong_n, g0, g1, g2, g3, g4]; done)
              by_cases e : q = o
              · subst e
                simp [hdo]
              · by_cases e2 : o ≤ q
                · have : o + 1 ≤ q := by omega
                  simp [e2, this]
                · have : ¬ o + 1 ≤ q := by omega
                  simp [e2, this]
            · have hdo : dcO ru A s L F i o b = false := by
                cases h : dcO ru A s L F i o b with
                | false => rfl
                | true => exact absurd ⟨hdc, hz⟩ (dcO_t.mp h)
              have hclr := BT_clr (o := o) (by rw [← e78] at hbt3; exact hbt3) (by omega)
              rw [hz]
              simp (disch := first | decide | omega) only [b6, w6_0, w6_1, w6_3, w6_4, w6_7, w6_10, w6_11, w6_13, w6_14, w6_17, w6_20, w6_23, w6_24, w6_25, w6_28, w6_31, w6_32, w6_35, w6_38, w6_39, w6_42, w6_43, w6_44, w6_45, w6_46, w6_49, w6_52, w6_55, w6_56, w6_60, w6_61, w6_64, w6_67, w6_68, w6_71, w6_72, w6_75, w6_76, w6_78, w6_79, w6_81, w6_82, w6_83, w6_84, w6_87, w6_90, w6_91, w6_92, w6_95, w6_98, w6_99, w6_102, w6_103, w6_104, w6_105, w6_106, w6_108, w6_109, w6_112, w6_113, w6_114, w6_115, w6_118, w6_121, w6_124, w6_127, w6_130, w6_133, tc74, tr74_0, tr74_1, tr74_2, tr74_3, tr74_4, tr74_5, tr74_6, ta75, tn75, ta76, tn76, ta77, tn77, ta78, tn78, ta79, tn79, tc2, tr2_2, tr2_3, tr2_4, tr2_5, tr2_6, tr2_7, tr2_8, tr2_9, tr2_12, tr2_13, tr2_15, ta3, tn3, ta4, tn4, ta5, tn5, ta6, tn6, ta7, tn7, ta8, tn8, ta9, tn9, ta10, tn10, ta11, tn11, ta12, tn12, ta13, tn13, tc63, tr63_0, tr63_1, tr63_3, tr63_4, tr63_5, tr63_6, ta64, tn64, ta65, tn65, ta66, tn66, ta67, tn67, xLoad_i, xLoad_l, xLoad_r, xInc_s, xBr_t, xBr_f, xNz_s, xGf_s, xPf_s, xPz_s, xLd_2, xLd_7, xLd_10, xLdb_3, xLdb_5, xLdb_9, xLdl_4, xLdr_6, xSt_2, xStl_4, xStb_3, xStb_5, xLen_s, xLen_10, xCpy_s, xIv_s, xMx_s, mCont_s, mCont_n, w32_s, w64_s, upC_e, upC_n, upC_u, upC_c, mEn_c, mEn_n, mcw_i, mcw_l, mcw_r, mcat_n, mcat_i, mcat_l, mcat_r, xlong_i, xlong_l, xlong_r, xlong_n, s1_at, s2_at, ↓reduceIte, reduceCtorEq, and_self, true_and, and_true, false_and, and_false, Bool.false_eq_true, ne_eq, not_true_eq_false, not_false_eq_true, or_true, true_or, or_false, false_or, or_self, Int.tmod_eq_emod_of_nonneg, Int.tdiv_eq_ediv_of_nonneg, Classical.not_not, xSw, rOK, b2i_ok, b2i_0, b2i_1, Nat.reduceAdd, Nat.reduceSub, Nat.reduceMul, Nat.reduceEqDiff, Nat.reduceLeDiff, Nat.reduceLT, Int.reduceAdd, Int.reduceSub, Int.reduceMul, Int.reduceNeg, Int.reduceEq, Int.reduceNe, Int.reduceLT, Int.reduceLE, Int.reduceToNat, Int.reduceTDiv, Int.reduceTMod, b2i_em, g0, g1, g2, g3, g4]
              refine ih3 _ _ ⟨fr_up (by decide) f14, fun j hj => by rw [upC_e, mU_n (by omega), e78, hoth3 j hj], BT_c (by rw [upC_e, mU_e]; exact hclr) (fun q _ => ?_), ?_, ?_, ?_, ?_, ?_⟩
              any_goals (simp [s1_at, s2_at, mEn_c, mcw_r, mcw_i, mcw_l, xlong_i, xlong_r, xlong_l, xlong_n, g0, g1, g2, g3, g4]; done)
              by_cases e : q = o
              · subst e
                simp [hdo]
              · by_cases e2 : o ≤ q
                · have : o + 1 ≤ q := by omega
                  simp [e, e2, this]
                · have : ¬ o + 1 ≤ q := by omega
                  simp [e, e2, this]
          · obtain ⟨hf3, hoth3, hbt3, g0, g1, g2, g3, g4⟩ := hI
            have k8 : M3 74 8 = C := by rw [hf3 74 (by decide), c8]
            rw [w6_58]
            simp (disch := first | decide | omega) only [b6, w6_0, w6_1, w6_3, w6_4, w6_7, w6_10, w6_11, w6_13, w6_14, w6_17, w6_20, w6_23, w6_24, w6_25, w6_28, w6_31, w6_32, w6_35, w6_38, w6_39, w6_42, w6_43, w6_44, w6_45, w6_46, w6_49, w6_52, w6_55, w6_56, w6_60, w6_61, w6_64, w6_67, w6_68, w6_71, w6_72, w6_75, w6_76, w6_78, w6_79, w6_81, w6_82, w6_83, w6_84, w6_87, w6_90, w6_91, w6_92, w6_95, w6_98, w6_99, w6_102, w6_103, w6_104, w6_105, w6_106, w6_108, w6_109, w6_112, w6_113, w6_114, w6_115, w6_118, w6_121, w6_124, w6_127, w6_130, w6_133, tc74, tr74_0, tr74_1, tr74_2, tr74_3, tr74_4, tr74_5, tr74_6, ta75, tn75, ta76, tn76, ta77, tn77, ta78, tn78, ta79, tn79, tc2, tr2_2, tr2_3, tr2_4, tr2_5, tr2_6, tr2_7, tr2_8, tr2_9, tr2_12, tr2_13, tr2_15, ta3, tn3, ta4, tn4, ta5, tn5, ta6, tn6, ta7, tn7, ta8, tn8, ta9, tn9, ta10, tn10, ta11, tn11, ta12, tn12, ta13, tn13, xLoad_i, xLoad_l, xLoad_r, xInc_s, xBr_t, xBr_f, xNz_s, xGf_s, xPf_s, xPz_s, xLd_2, xLd_7, xLd_10, xLdb_3, xLdb_5, xLdb_9, xLdl_4, xLdr_6, xSt_2, xStl_4, xStb_3, xStb_5, xLen_s, xLen_10, xCpy_s, xIv_s, xMx_s, mCont_s, mCont_n, w32_s, w64_s, upC_e, upC_n, upC_u, upC_c, mEn_c, mEn_n, mcw_i, mcw_l, mcw_r, mcat_n, mcat_i, mcat_l, mcat_r, xlong_i, xlong_l, xlong_r, xlong_n, s1_at, s2_at, ↓reduceIte, reduceCtorEq, and_self, true_and, and_true, false_and, and_false, Bool.false_eq_true, ne_eq, not_true_eq_false, not_false_eq_true, or_true, true_or, or_false, false_or, or_self, Int.tmod_eq_emod_of_nonneg, Int.tdiv_eq_ediv_of_nonneg, Classical.not_not, xSw, rOK, b2i_ok, b2i_0, b2i_1, Nat.reduceAdd, Nat.reduceSub, Nat.reduceMul, Nat.reduceEqDiff, Nat.reduceLeDiff, Nat.reduceLT, Int.reduceAdd, Int.reduceSub, Int.reduceMul, Int.reduceNeg, Int.reduceEq, Int.reduceNe, Int.reduceLT, Int.reduceLE, Int.reduceToNat, Int.reduceTDiv, Int.reduceTMod, b2i_em, g0, g1, g2, g3, g4, k8]
            refine ih2 _ _ ⟨hf3, hoth3, BT_c hbt3 (fun q _ => ?_), ?_, ?_, ?_, ?_⟩
            any_goals (simp [s1_at, s2_at, mEn_c, mcw_r, mcw_i, mcw_l, xlong_i, xlong_r, xlong_l, xlong_n, g0, g1, g2, g3]; done)
            by_cases e : C ≤ q
            · rw [hALC i q e, Bool.false_and, Bool.false_and]
            · rw [dcB_s]
              simp [e]
        · have u3 := fun (d : Nat) (M : mM) (K : mQ) => c_isI0 (s := A (16 + (L.getD i 0 : Nat))) (n := (b : Nat)) (d := d) (M := M) (K := K) (fun h => c3 h.2.2)
          simp (disch := first | decide | omega) only [b6, w6_0, w6_1, w6_3, w6_4, w6_7, w6_10, w6_11, w6_13, w6_14, w6_17, w6_20, w6_23, w6_24, w6_25, w6_28, w6_31, w6_32, w6_35, w6_38, w6_39, w6_42, w6_43, w6_44, w6_45, w6_46, w6_49, w6_52, w6_55, w6_56, w6_60, w6_61, w6_64, w6_67, w6_68, w6_71, w6_72, w6_75, w6_76, w6_78, w6_79, w6_81, w6_82, w6_83, w6_84, w6_87, w6_90, w6_91, w6_92, w6_95, w6_98, w6_99, w6_102, w6_103, w6_104, w6_105, w6_106, w6_108, w6_109, w6_112, w6_113, w6_114, w6_115, w6_118, w6_121, w6_124, w6_127, w6_130, w6_133, tc74, tr74_0, tr74_1, tr74_2, tr74_3, tr74_4, tr74_5, tr74_6, ta75, tn75, ta76, tn76, ta77, tn77, ta78, tn78, ta79, tn79, tc2, tr2_2, tr2_3, tr2_4, tr2_5, tr2_6, tr2_7, tr2_8, tr2_9, tr2_12, tr2_13, tr2_15, ta3, tn3, ta4, tn4, ta5, tn5, ta6, tn6, ta7, tn7, ta8, tn8, ta9, tn9, ta10, tn10, ta11, tn11, ta12, tn12, ta13, tn13, xLoad_i, xLoad_l, xLoad_r, xInc_s, xBr_t, xBr_f, xNz_s, xGf_s, xPf_s, xPz_s, xLd_2, xLd_7, xLd_10, xLdb_3, xLdb_5, xLdb_9, xLdl_4, xLdr_6, xSt_2, xStl_4, xStb_3, xStb_5, xLen_s, xLen_10, xCpy_s, xIv_s, xMx_s, mCont_s, mCont_n, w32_s, w64_s, upC_e, upC_n, upC_u, upC_c, mEn_c, mEn_n, mcw_i, mcw_l, mcw_r, mcat_n, mcat_i, mcat_l, mcat_r, xlong_i, xlong_l, xlong_r, xlong_n, s1_at, s2_at, ↓reduceIte, reduceCtorEq, and_self, true_and, and_true, false_and, and_false, Bool.false_eq_true, ne_eq, not_true_eq_false, not_false_eq_true, or_true, true_or, or_false, false_or, or_self, Int.tmod_eq_emod_of_nonneg, Int.tdiv_eq_ediv_of_nonneg, Classical.not_not, xSw, rOK, b2i_ok, b2i_0, b2i_1, Nat.reduceAdd, Nat.reduceSub, Nat.reduceMul, Nat.reduceEqDiff, Nat.reduceLeDiff, Nat.reduceLT, Int.reduceAdd, Int.reduceSub, Int.reduceMul, Int.reduceNeg, Int.reduceEq, Int.reduceNe, Int.reduceLT, Int.reduceLE, Int.reduceToNat, Int.reduceTDiv, Int.reduceTMod, b2i_em, g0, g1, g2, g3, f20, u1, q1, q5, u3]
          refine ih2 _ _ ⟨hf2, hoth, hsame (fun g => c3 g.2), ?_, ?_, ?_, ?_⟩
          all_goals simp [s1_at, s2_at, mEn_c, mcw_r, mcw_i, mcw_l, xlong_i, xlong_r, xlong_l, xlong_n, g0, g1, g2, g3]
    · obtain ⟨hf2, hoth, hbt, g0, g1, g2, g3⟩ := hI
      have f20 : M2 2 0 = A 0 := by rw [hf2 2 (by decide)]; exact hX.1.1
      rw [w6_12]
      simp (disch := first | decide | omega) only [b6, w6_0, w6_1, w6_3, w6_4, w6_7, w6_10, w6_11, w6_13, w6_14, w6_17, w6_20, w6_23, w6_24, w6_25, w6_28, w6_31, w6_32, w6_35, w6_38, w6_39, w6_42, w6_43, w6_44, w6_45, w6_46, w6_49, w6_52, w6_55, w6_56, w6_60, w6_61, w6_64, w6_67, w6_68, w6_71, w6_72, w6_75, w6_76, w6_78, w6_79, w6_81, w6_82, w6_83, w6_84, w6_87, w6_90, w6_91, w6_92, w6_95, w6_98, w6_99, w6_102, w6_103, w6_104, w6_105, w6_106, w6_108, w6_109, w6_112, w6_113, w6_114, w6_115, w6_118, w6_121, w6_124, w6_127, w6_130, w6_133, tc74, tr74_0, tr74_1, tr74_2, tr74_3, tr74_4, tr74_5, tr74_6, ta75, tn75, ta76, tn76, ta77, tn77, ta78, tn78, ta79, tn79, tc2, tr2_2, tr2_3, tr2_4, tr2_5, tr2_6, tr2_7, tr2_8, tr2_9, tr2_12, tr2_13, tr2_15, ta3, tn3, ta4, tn4, ta5, tn5, ta6, tn6, ta7, tn7, ta8, tn8, ta9, tn9, ta10, tn10, ta11, tn11, ta12, tn12, ta13, tn13, xLoad_i, xLoad_l, xLoad_r, xInc_s, xBr_t, xBr_f, xNz_s, xGf_s, xPf_s, xPz_s, xLd_2, xLd_7, xLd_10, xLdb_3, xLdb_5, xLdb_9, xLdl_4, xLdr_6, xSt_2, xStl_4, xStb_3, xStb_5, xLen_s, xLen_10, xCpy_s, xIv_s, xMx_s, mCont_s, mCont_n, w32_s, w64_s, upC_e, upC_n, upC_u, upC_c, mEn_c, mEn_n, mcw_i, mcw_l, mcw_r, mcat_n, mcat_i, mcat_l, mcat_r, xlong_i, xlong_l, xlong_r, xlong_n, s1_at, s2_at, ↓reduceIte, reduceCtorEq, and_self, true_and, and_true, false_and, and_false, Bool.false_eq_true, ne_eq, not_true_eq_false, not_false_eq_true, or_true, true_or, or_false, false_or, or_self, Int.tmod_eq_emod_of_nonneg, Int.tdiv_eq_ediv_of_nonneg, Classical.not_not, xSw, rOK, b2i_ok, b2i_0, b2i_1, Nat.reduceAdd, Nat.reduceSub, Nat.reduceMul, Nat.reduceEqDiff, Nat.reduceLeDiff, Nat.reduceLT, Int.reduceAdd, Int.reduceSub, Int.reduceMul, Int.reduceNeg, Int.reduceEq, Int.reduceNe, Int.reduceLT, Int.reduceLE, Int.reduceToNat, Int.reduceTDiv, Int.reduceTMod, b2i_em, g0, g1, g2, g3, f20]
      refine ih _ _ ⟨hf2, fun j hj => ⟨fun h => ?_, fun h => ?_⟩, ?_, ?_, ?_⟩
      any_goals (simp [s1_at, s2_at, mEn_c, mcw_r, mcw_i, mcw_l, xlong_i, xlong_r, xlong_l, xlong_n, g0, g1, g2]; done)
      · by_cases e : j = i
        · rw [e]; exact hbt
        · rw [hoth j e]; exact (hb j hj).1 (by omega)
      · rw [hoth j (by omega)]; exact (hb j hj).2 (by omega)
  · obtain ⟨hf, hb, g0, g1, g2⟩ := hI
    have k7 : M' 74 7 = n := by rw [hf 74 (by decide), c7]
    have hr := hK M' hf ⟨k7, by rw [hf 74 (by decide), c8], by rw [hf 74 (by decide), c9], by rw [hf 75 (by decide)]; exact c75, by rw [hf 77 (by decide), c77], fun j hj => (hb j hj).1 hj⟩
    rw [w6_2]
    simp (disch := first | decide | omega) only [b6, w6_0, w6_1, w6_3, w6_4, w6_7, w6_10, w6_11, w6_13, w6_14, w6_17, w6_20, w6_23, w6_24, w6_25, w6_28, w6_31, w6_32, w6_35, w6_38, w6_39, w6_42, w6_43, w6_44, w6_45, w6_46, w6_49, w6_52, w6_55, w6_56, w6_60, w6_61, w6_64, w6_67, w6_68, w6_71, w6_72, w6_75, w6_76, w6_78, w6_79, w6_81, w6_82, w6_83, w6_84, w6_87, w6_90, w6_91, w6_92, w6_95, w6_98, w6_99, w6_102, w6_103, w6_104, w6_105, w6_106, w6_108, w6_109, w6_112, w6_113, w6_114, w6_115, w6_118, w6_121, w6_124, w6_127, w6_130, w6_133, tc74, tr74_0, tr74_1, tr74_2, tr74_3, tr74_4, tr74_5, tr74_6, ta75, tn75, ta76, tn76, ta77, tn77, ta78, tn78, ta79, tn79, tc2, tr2_2, tr2_3, tr2_4, tr2_5, tr2_6, tr2_7, tr2_8, tr2_9, tr2_12, tr2_13, tr2_15, ta3, tn3, ta4, tn4, ta5, tn5, ta6, tn6, ta7, tn7, ta8, tn8, ta9, tn9, ta10, tn10, ta11, tn11, ta12, tn12, ta13, tn13, xLoad_i, xLoad_l, xLoad_r, xInc_s, xBr_t, xBr_f, xNz_s, xGf_s, xPf_s, xPz_s, xLd_2, xLd_7, xLd_10, xLdb_3, xLdb_5, xLdb_9, xLdl_4, xLdr_6, xSt_2, xStl_4, xStb_3, xStb_5, xLen_s, xLen_10, xCpy_s, xIv_s, xMx_s, mCont_s, mCont_n, w32_s, w64_s, upC_e, upC_n, upC_u, upC_c, mEn_c, mEn_n, mcw_i, mcw_l, mcw_r, mcat_n, mcat_i, mcat_l, mcat_r, xlong_i, xlong_l, xlong_r, xlong_n, s1_at, s2_at, ↓reduceIte, reduceCtorEq, and_self, true_and, and_true, false_and, and_false, Bool.false_eq_true, ne_eq, not_true_eq_false, not_false_eq_true, or_true, true_or, or_false, false_or, or_self, Int.tmod_eq_emod_of_nonneg, Int.tdiv_eq_ediv_of_nonneg, Classical.not_not, xSw, rOK, b2i_ok, b2i_0, b2i_1, Nat.reduceAdd, Nat.reduceSub, Nat.reduceMul, Nat.reduceEqDiff, Nat.reduceLeDiff, Nat.reduceLT, Int.reduceAdd, Int.reduceSub, Int.reduceMul, Int.reduceNeg, Int.reduceEq, Int.reduceNe, Int.reduceLT, Int.reduceLE, Int.reduceToNat, Int.reduceTDiv, Int.reduceTMod, b2i_em, g0, g1, g2, k7]
    exact hr
theorem bF_spec {ok hr : Nat → Int} (h0 : ∀ t, 0 ≤ hr t) : ∀ n, ((bF ok hr n).1 = -1 ∧ ∀ t, t < n → ok t ≠ 1) ∨ ((bF ok hr n).2 < n ∧ ok (bF ok hr n).2 = 1 ∧ hr (bF ok hr n).2 = (bF ok hr n).1 ∧ ∀ t, t < n → ok t = 1 → (bF ok hr n).1 ≤ hr t ∧ (t < (bF ok hr n).2 → (bF ok hr n).1 < hr t))
  | 0 => Or.inl ⟨rfl, fun t ht => absurd ht (by omega)⟩
  | n + 1 => by
    have ih := bF_spec (ok := ok) h0 n
    have hs := bF_s (ok := ok) (hr := hr) (t := n)
    have hn := h0 n
    by_cases c : ok n = 1 ∧ ((bF ok hr n).1 = -1 ∨ hr n < (bF ok hr n).1)
    · rw [if_pos c] at hs
      rw [hs]
      refine Or.inr ⟨by omega, c.1, rfl, fun t ht hok => ?_⟩
      dsimp only
      by_cases e : t = n
      · subst e
        exact ⟨Int.le_refl _, fun g => absurd g (by omega)⟩
      · rcases ih with ⟨i1, i2⟩ | ⟨i1, i2, i3, i4⟩
        · exact absurd hok (i2 t (by omega))
        · have := (i4 t (by omega) hok).1
          have := h0 (bF ok hr n).2
          omega
    · rw [if_neg c] at hs
      rw [hs]
      rcases ih with ⟨i1, i2⟩ | ⟨i1, i2, i3, i4⟩
      · refine Or.inl ⟨i1, fun t ht hok => ?_⟩
        by_cases e : t = n
        · subst e; exact c ⟨hok, Or.inl i1⟩
        · exact i2 t (by omega) hok
      · refine Or.inr ⟨by omega, i2, i3, fun t ht hok => ?_⟩
        by_cases e : t = n
        · subst e
          have : ¬ hr t < (bF ok hr t).1 := fun g => c ⟨hok, Or.inr g⟩
          exact ⟨by omega, fun g => absurd g (by omega)⟩
        · exact i4 t (by omega) hok
theorem bF_is {ok hr : Nat → Int} (h0 : ∀ t, 0 ≤ hr t) {n x : Nat} (hx : x < n) (hok : ok x = 1) (hle : ∀ t, t < n → ok t = 1 → hr x ≤ hr t) (hlt : ∀ t, t < x → ok t = 1 → hr t ≠ hr x) : bF ok hr n = (hr x, x) := by
  rcases bF_spec (ok := ok) h0 n with ⟨i1, i2⟩ | ⟨i1, i2, i3, i4⟩
  · exact absurd hok (i2 x hx)
  · have h1 := i4 x hx hok
    have h2 := hle _ i1 i2
    have e1 : (bF ok hr n).1 = hr x := by omega
    have e2 : (bF ok hr n).2 = x := by
      rcases Nat.lt_trichotomy (bF ok hr n).2 x with c | c | c
      · exact absurd (by omega) (hlt _ c i2)
      · exact c
      · have := h1.2 c; omega
    exact Prod.ext e1 e2
theorem bF_none {ok hr : Nat → Int} (h0 : ∀ t, 0 ≤ hr t) {n : Nat} (h : ∀ t, t < n → ok t ≠ 1) : (bF ok hr n).1 = -1 := by
  rcases bF_spec (ok := ok) h0 n with ⟨i1, i2⟩ | ⟨i1, i2, i3, i4⟩
  · exact i1
  · exact absurd i2 (h _ i1)
theorem csV_0 {sh : Int} {v : Int → Int} : ∀ n : Nat, 0 ≤ csV sh v n
  | 0 => Int.le_refl _
  | n + 1 => by
    have := csV_0 (sh := sh) (v := v) n
    have := coV_0 (sh := sh) (o := v n)
    rw [csV_s]
    omega
theorem csV_ub {sh m : Int} {v : Int → Int} : ∀ n : Nat, (∀ j : Nat, j < n → coV sh (v j) ≤ m) → csV sh v n ≤ n * m
  | 0, _ => by show (0 : Int) ≤ ((0 : Nat) : Int) * m; omega
  | n + 1, h => by
    have := csV_ub n (fun j hj => h j (by omega))
    have := h n (by omega)
    have e : ((n + 1 : Nat) : Int) * m = n * m + m := by rw [show ((n + 1 : Nat) : Int) = (n : Int) + 1 by omega, Int.add_mul, Int.one_mul]
    rw [csV_s, e]
    omega
/-- good: of the class's options -/
noncomputable def gdI (ru : RU) (A : Int → Int) (L : List Nat) (F : Int → Int) (n C : Nat) (sh W : Int) (AL : Nat → Nat → Bool) (x : Nat) : Int := @ite Int (GV ru A L F n sh W AL (ov C n x)) (Classical.propDecidable _) 1 0
theorem gdI_1 {ru : RU} {A : Int → Int} {L : List Nat} {F : Int → Int} {n C : Nat} {sh W : Int} {AL : Nat → Nat → Bool} {x : Nat} : gdI ru A L F n C sh W AL x = 1 ↔ GV ru A L F n sh W AL (ov C n x) := by
  unfold gdI
  by_cases c : GV ru A L F n sh W AL (ov C n x)
  · rw [if_pos c]; exact ⟨fun _ => c, fun _ => rfl⟩
  · rw [if_neg c]; exact ⟨fun h => absurd h (by decide), fun h => absurd h c⟩
abbrev QCp : List Nat := [64, 76, 78, 79, 66, 34, 42, 50, 58]
set_option maxHeartbeats 4000000 in
theorem c_cheapest0 {d n C : Nat} {M : mM} {K : mQ} {A F : Int → Int} {ru : RU} {L : List Nat} {sh s W wt' : Int} {AL : Nat → Nat → Bool} (hsh : sh = 0 ∨ sh = 1) (hX : CX M A ru) (hC : CHs L F n C sh AL M) (hM : FMs ru A L F n C M) (hF : ∀ j : Nat, j < 244 → 0 ≤ F j ∧ F j ≤ 999) (hn : n ≤ 4) (hC61 : C ≤ 61) (hC1 : 0 < C) (hW : sh = 1 → W = (C : Int) - 1 ∧ wt' = W) (hW0 : sh = 0 → wt' = 0 ∧ C = 11) (hl : L.length = n) (hl6 : ∀ i, i < n → L.getD i 0 < 6) (hALC : ∀ i o, C ≤ o → AL i o = false) (hO : ∀ M' p q, fr QCp M M' → p < q → ((q : Nat) : Int) < A 0 → ocP ru A s p q → K (some (vi (-1))) M') (hB : ∀ M' (B : Int × Nat), fr QCp M M' → (∀ p q : Nat, p < q → (q : Int) < A 0 → ¬ ocP ru A s p q) → B = bF (gdI ru A L F n C sh W (fun i o => AL i o && dcB ru A s L F i o (A 0).toNat)) (fun x => csV sh (ov C n x) n) (C ^ n) → (B.1 ≠ -1 → ∀ j : Nat, j < n → M' 76 j = ov C n B.2 j) → K (some (vi B.1)) M') : mCall (d + 1 + n + 8) 4 [vr 74, vi s, vi wt'] M K := by
  simp (disch := first | decide | omega) only [b4, w4_0, w4_1, w4_4, w4_7, w4_8, w4_9, w4_12, w4_15, w4_16, w4_17, w4_18, w4_19, w4_22, w4_23, w4_26, w4_29, w4_30, w4_33, w4_36, w4_37, w4_40, w4_41, w4_42, w4_43, w4_44, w4_48, w4_49, w4_52, w4_53, w4_54, w4_56, w4_57, w4_60, w4_63, w4_65, w4_66, w4_69, w4_72, w4_73, tc74, tr74_0, tr74_1, tr74_2, tr74_3, tr74_4, tr74_5, tr74_6, ta75, tn75, ta76, tn76, ta77, tn77, ta78, tn78, ta79, tn79, tc63, tr63_0, tr63_1, tr63_3, tr63_4, tr63_5, tr63_6, ta64, tn64, ta65, tn65, ta66, tn66, ta67, tn67, xLoad_i, xLoad_l, xLoad_r, xInc_s, xBr_t, xBr_f, xNz_s, xGf_s, xPf_s, xPz_s, xLd_2, xLd_7, xLd_10, xLdb_3, xLdb_5, xLdb_9, xLdl_4, xLdr_6, xSt_2, xStl_4, xStb_3, xStb_5, xLen_s, xLen_10, xCpy_s, xIv_s, xMx_s, mCont_s, mCont_n, w32_s, w64_s, upC_e, upC_n, upC_u, upC_c, mEn_c, mEn_n, mcw_i, mcw_l, mcw_r, mcat_n, mcat_i, mcat_l, mcat_r, xlong_i, xlong_l, xlong_r, xlong_n, s1_at, s2_at, ↓reduceIte, reduceCtorEq, and_self, true_and, and_true, false_and, and_false, Bool.false_eq_true, ne_eq, not_true_eq_false, not_false_eq_true, or_true, true_or, or_false, false_or, or_self, Int.tmod_eq_emod_of_nonneg, Int.tdiv_eq_ediv_of_nonneg, Classical.not_not, xSw, rOK, b2i_ok, b2i_0, b2i_1, Nat.reduceAdd, Nat.reduceSub, Nat.reduceMul, Nat.reduceEqDiff, Nat.reduceLeDiff, Nat.reduceLT, Int.reduceAdd, Int.reduceSub, Int.reduceMul, Int.reduceNeg, Int.reduceEq, Int.reduceNe, Int.reduceLT, Int.reduceLE, Int.reduceToNat, Int.reduceTDiv, Int.reduceTMod, b2i_em]
  refine a_hearAll hX (fun M1 f1 h64 => ?_)
  simp (disch := first | decide | omega) only [b4, w4_0, w4_1, w4_4, w4_7, w4_8, w4_9, w4_12, w4_15, w4_16, w4_17, w4_18, w4_19, w4_22, w4_23, w4_26, w4_29, w4_30, w4_33, w4_36, w4_37, w4_40, w4_41, w4_42, w4_43, w4_44, w4_48, w4_49, w4_52, w4_53, w4_54, w4_56, w4_57, w4_60, w4_63, w4_65, w4_66, w4_69, w4_72, w4_73, tc74, tr74_0, tr74_1, tr74_2, tr74_3, tr74_4, tr74_5, tr74_6, ta75, tn75, ta76, tn76, ta77, tn77, ta78, tn78, ta79, tn79, tc63, tr63_0, tr63_1, tr63_3, tr63_4, tr63_5, tr63_6, ta64, tn64, ta65, tn65, ta66, tn66, ta67, tn67, xLoad_i, xLoad_l, xLoad_r, xInc_s, xBr_t, xBr_f, xNz_s, xGf_s, xPf_s, xPz_s, xLd_2, xLd_7, xLd_10, xLdb_3, xLdb_5, xLdb_9, xLdl_4, xLdr_6, xSt_2, xStl_4, xStb_3, xStb_5, xLen_s, xLen_10, xCpy_s, xIv_s, xMx_s, mCont_s, mCont_n, w32_s, w64_s, upC_e, upC_n, upC_u, upC_c, mEn_c, mEn_n, mcw_i, mcw_l, mcw_r, mcat_n, mcat_i, mcat_l, mcat_r, xlong_i, xlong_l, xlong_r, xlong_n, s1_at, s2_at, ↓reduceIte, reduceCtorEq, and_self, true_and, and_true, false_and, and_false, Bool.false_eq_true, ne_eq, not_true_eq_false, not_false_eq_true, or_true, true_or, or_false, false_or, or_self, Int.tmod_eq_emod_of_nonneg, Int.tdiv_eq_ediv_of_nonneg, Classical.not_not, xSw, rOK, b2i_ok, b2i_0, b2i_1, Nat.reduceAdd, Nat.reduceSub, Nat.reduceMul, Nat.reduceEqDiff, Nat.reduceLeDiff, Nat.reduceLT, Int.reduceAdd, Int.reduceSub, Int.reduceMul, Int.reduceNeg, Int.reduceEq, Int.reduceNe, Int.reduceLT, Int.reduceLE, Int.reduceToNat, Int.reduceTDiv, Int.reduceTMod, b2i_em]
  have hX1 := CX_fr hX f1 (by decide)
  refine c_othersClash hX1 h64 (fun M2 p q f2 h1 h2 h3 => ?_) (fun M2 f2 hno => ?_)
  · have hr := hO M2 p q (fr_tr f1 f2 (by decide) (by decide)) h1 h2 h3
    simp (disch := first | decide | omega) only [b4, w4_0, w4_1, w4_4, w4_7, w4_8, w4_9, w4_12, w4_15, w4_16, w4_17, w4_18, w4_19, w4_22, w4_23, w4_26, w4_29, w4_30, w4_33, w4_36, w4_37, w4_40, w4_41, w4_42, w4_43, w4_44, w4_48, w4_49, w4_52, w4_53, w4_54, w4_56, w4_57, w4_60, w4_63, w4_65, w4_66, w4_69, w4_72, w4_73, tc74, tr74_0, tr74_1, tr74_2, tr74_3, tr74_4, tr74_5, tr74_6, ta75, tn75, ta76, tn76, ta77, tn77, ta78, tn78, ta79, tn79, tc63, tr63_0, tr63_1, tr63_3, tr63_4, tr63_5, tr63_6, ta64, tn64, ta65, tn65, ta66, tn66, ta67, tn67, xLoad_i, xLoad_l, xLoad_r, xInc_s, xBr_t, xBr_f, xNz_s, xGf_s, xPf_s, xPz_s, xLd_2, xLd_7, xLd_10, xLdb_3, xLdb_5, xLdb_9, xLdl_4, xLdr_6, xSt_2, xStl_4, xStb_3, xStb_5, xLen_s, xLen_10, xCpy_s, xIv_s, xMx_s, mCont_s, mCont_n, w32_s, w64_s, upC_e, upC_n, upC_u, upC_c, mEn_c, mEn_n, mcw_i, mcw_l, mcw_r, mcat_n, mcat_i, mcat_l, mcat_r, xlong_i, xlong_l, xlong_r, xlong_n, s1_at, s2_at, ↓reduceIte, reduceCtorEq, and_self, true_and, and_true, false_and, and_false, Bool.false_eq_true, ne_eq, not_true_eq_false, not_false_eq_true, or_true, true_or, or_false, false_or, or_self, Int.tmod_eq_emod_of_nonneg, Int.tdiv_eq_ediv_of_nonneg, Classical.not_not, xSw, rOK, b2i_ok, b2i_0, b2i_1, Nat.reduceAdd, Nat.reduceSub, Nat.reduceMul, Nat.reduceEqDiff, Nat.reduceLeDiff, Nat.reduceLT, Int.reduceAdd, Int.reduceSub, Int.reduceMul, Int.reduceNeg, Int.reduceEq, Int.reduceNe, Int.reduceLT, Int.reduceLE, Int.reduceToNat, Int.reduceTDiv, Int.reduceTMod, b2i_em]
    exact hr
  · have f12 : fr (64 :: SC) M M2 := fr_trans f1 (fr_mono f2 (by decide))
    have hX2 := CX_fr hX f12 (by decide)
    have hC2 := CHs_fr hC f12 (by decide)
    simp (disch := first | decide | omega) only [b4, w4_0, w4_1, w4_4, w4_7, w4_8, w4_9, w4_12, w4_15, w4_16, w4_17, w4_18, w4_19, w4_22, w4_23, w4_26, w4_29, w4_30, w4_33, w4_36, w4_37, w4_40, w4_41, w4_42, w4_43, w4_44, w4_48, w4_49, w4_52, w4_53, w4_54, w4_56, w4_57, w4_60, w4_63, w4_65, w4_66, w4_69, w4_72, w4_73, tc74, tr74_0, tr74_1, tr74_2, tr74_3, tr74_4, tr74_5, tr74_6, ta75, tn75, ta76, tn76, ta77, tn77, ta78, tn78, ta79, tn79, tc63, tr63_0, tr63_1, tr63_3, tr63_4, tr63_5, tr63_6, ta64, tn64, ta65, tn65, ta66, tn66, ta67, tn67, xLoad_i, xLoad_l, xLoad_r, xInc_s, xBr_t, xBr_f, xNz_s, xGf_s, xPf_s, xPz_s, xLd_2, xLd_7, xLd_10, xLdb_3, xLdb_5, xLdb_9, xLdl_4, xLdr_6, xSt_2, xStl_4, xStb_3, xStb_5, xLen_s, xLen_10, xCpy_s, xIv_s, xMx_s, mCont_s, mCont_n, w32_s, w64_s, upC_e, upC_n, upC_u, upC_c, mEn_c, mEn_n, mcw_i, mcw_l, mcw_r, mcat_n, mcat_i, mcat_l, mcat_r, xlong_i, xlong_l, xlong_r, xlong_n, s1_at, s2_at, ↓reduceIte, reduceCtorEq, and_self, true_and, and_true, false_and, and_false, Bool.false_eq_true, ne_eq, not_true_eq_false, not_false_eq_true, or_true, true_or, or_false, false_or, or_self, Int.tmod_eq_emod_of_nonneg, Int.tdiv_eq_ediv_of_nonneg, Classical.not_not, xSw, rOK, b2i_ok, b2i_0, b2i_1, Nat.reduceAdd, Nat.reduceSub, Nat.reduceMul, Nat.reduceEqDiff, Nat.reduceLeDiff, Nat.reduceLT, Int.reduceAdd, Int.reduceSub, Int.reduceMul, Int.reduceNeg, Int.reduceEq, Int.reduceNe, Int.reduceLT, Int.reduceLE, Int.reduceToNat, Int.reduceTDiv, Int.reduceTMod, b2i_em]
    refine c_dropClashing (s := s) hX2 hC2 hF hn hC61 hl hl6 hALC (fun b hb => by rw [f2 64 (by decide)]; exact h64 b hb) (fun M3 f3 hC3 => ?_)
    have f13 : fr QCp M M3 := fr_tr f12 f3 (by decide) (by decide)
    have hX3 := CX_fr hX f13 (by decide)
    have hM3 : FMs ru A L F n C M3 := fun e i oe h1 h2 h3 => by rw [f3 79 (by decide), f12 79 (by decide)]; exact hM e i oe h1 h2 h3
    have c7 := hC3.1
    have c9 := hC3.2.2.1
    generalize (fun (i o : Nat) => AL i o && dcB ru A s L F i o (A 0).toNat) = BL at hC3 hB
    obtain ⟨D, hD⟩ : ∃ D : Nat, (sh = 1 → D = n) ∧ (sh = 0 → D = n * 5) := by
      rcases hsh with rfl | rfl
      · exact ⟨n * 5, fun e => absurd e (by decide), fun _ => rfl⟩
      · exact ⟨n, fun _ => rfl, fun e => absurd e (by decide)⟩
    have hD20 : D ≤ 20 := by rcases hsh with e | e; have := hD.2 e; omega; have := hD.1 e; omega
    have hdear : ∀ x, csV sh (ov C n x) n ≤ D := fun x => by
      rcases hsh with e | e
      · have h1 := csV_ub (sh := sh) (m := 5) (v := ov C n x) n (fun j _ => by
          have h2 := ov_R (n := n) (x := x) hC1 j
          have h3 := (hW0 e).2
          unfold coV
          rw [if_neg (by omega)]
          split <;> omega)
        have := hD.2 e
        omega
      · have h1 := csV_ub (sh := sh) (m := 1) (v := ov C n x) n (fun j _ => by
          unfold coV
          rw [if_pos e]
          split <;> decide)
        have := hD.1 e
        omega
    have h00 : ∀ t, 0 ≤ (fun x => csV sh (ov C n x) n) t := fun t => csV_0 n
    have hv0 : ∀ w, vO C w 0 = 0 := fun _ => rfl
    have hloop : ∀ lv : mL, lv 0 = some (vr 74) → lv 2 = some (vi wt') → lv 3 = some (vi D) → lv 4 = some (vi 0) → rn (d + 1 + n + 7) 4 K 46 lv [] M3 := fun lv g0 g2 g3 g4 => by
      refine loopL (P := fun c lv M' => fr QCp M M' ∧ CHs L F n C sh BL M' ∧ FMs ru A L F n C M' ∧ (∀ b : Nat, b < c → ∀ x, x < C ^ n → ¬ HIT ru A L F n C sh W BL b x) ∧ lv 0 = some (vr 74) ∧ lv 2 = some (vi wt') ∧ lv 3 = some (vi D) ∧ lv 4 = some (vi (c : Nat))) (G := fun lv M' => rn (d + 1 + n + 7) 4 K 46 lv [] M') (D + 1) 0 (Nat.zero_le _) _ _ ⟨f13, hC3, hM3, fun b hb => absurd hb (by omega), g0, g2, g3, g4⟩ (fun c hc ih lv M' hI => ?_) (fun lv M' hI => ?_)
      · obtain ⟨hf, hC', hM', hnone, g0, g2, g3, g4⟩ := hI
        rw [w4_46]
        simp (disch := first | decide | omega) only [b4, w4_0, w4_1, w4_4, w4_7, w4_8, w4_9, w4_12, w4_15, w4_16, w4_17, w4_18, w4_19, w4_22, w4_23, w4_26, w4_29, w4_30, w4_33, w4_36, w4_37, w4_40, w4_41, w4_42, w4_43, w4_44, w4_48, w4_49, w4_52, w4_53, w4_54, w4_56, w4_57, w4_60, w4_63, w4_65, w4_66, w4_69, w4_72, w4_73, tc74, tr74_0, tr74_1, tr74_2, tr74_3, tr74_4, tr74_5, tr74_6, ta75, tn75, ta76, tn76, ta77, tn77, ta78, tn78, ta79, tn79, tc63, tr63_0, tr63_1, tr63_3, tr63_4, tr63_5, tr63_6, ta64, tn64, ta65, tn65, ta66, tn66, ta67, tn67, xLoad_i, xLoad_l, xLoad_r, xInc_s, xBr_t, xBr_f, xNz_s, xGf_s, xPf_s, xPz_s, xLd_2, xLd_7, xLd_10, xLdb_3, xLdb_5, xLdb_9, xLdl_4, xLdr_6, xSt_2, xStl_4, xStb_3, xStb_5, xLen_s, xLen_10, xCpy_s, xIv_s, xMx_s, mCont_s, mCont_n, w32_s, w64_s, upC_e, upC_n, upC_u, upC_c, mEn_c, mEn_n, mcw_i, mcw_l, mcw_r, mcat_n, mcat_i, mcat_l, mcat_r, xlong_i, xlong_l, xlong_r, xlong_n, s1_at, s2_at, ↓reduceIte, reduceCtorEq, and_self, true_and, and_true, false_and, and_false, Bool.false_eq_true, ne_eq, not_true_eq_false, not_false_eq_true, or_true, true_or, or_false, false_or, or_self, Int.tmod_eq_emod_of_nonneg, Int.tdiv_eq_ediv_of_nonneg, Classical.not_not, xSw, rOK, b2i_ok, b2i_0, b2i_1, Nat.reduceAdd, Nat.reduceSub, Nat.reduceMul, Nat.reduceEqDiff, Nat.reduceLeDiff, Nat.reduceLT, Int.reduceAdd, Int.reduceSub, Int.reduceMul, Int.reduceNeg, Int.reduceEq, Int.reduceNe, Int.reduceLT, Int.reduceLE, Int.reduceToNat, Int.reduceTDiv, Int.reduceTMod, b2i_em, g0, g2, g3, g4]
        rw [show (0 : Int) = ((0 : Nat) : Int) from rfl]
        refine c_choose (W := W) (c0 := (c : Int)) (AL := BL) hsh hF hn hC61 hC1 (fun e => (hW e).1) hl hl6 n 0 M' (fun _ => 0) (c : Int) wt' (by omega) (CX_fr hX hf (by decide)) hC' hM' (fun j hj => absurd hj (by omega)) (fun j hj => absurd hj (by omega)) (fun j hj => absurd hj (by omega)) (fun j hj => absurd hj (by omega)) (by show (c : Int) = c - 0; omega) (by omega) (fun e => ⟨by show wt' = W - 0; have := hW e; omega, by have := hW e; omega⟩) (fun e => (hW0 e).1) (fun M4 f4 hM4 _ hno4 => ?_) (fun M4 x f4 hM4 hx1 hx2 hx hy hov => ?_)
        · rw [hv0, Nat.zero_mul, Nat.zero_add, Nat.one_mul] at hno4
          simp (disch := first | decide | omega) only [b4, w4_0, w4_1, w4_4, w4_7, w4_8, w4_9, w4_12, w4_15, w4_16, w4_17, w4_18, w4_19, w4_22, w4_23, w4_26, w4_29, w4_30, w4_33, w4_36, w4_37, w4_40, w4_41, w4_42, w4_43, w4_44, w4_48, w4_49, w4_52, w4_53, w4_54, w4_56, w4_57, w4_60, w4_63, w4_65, w4_66, w4_69, w4_72, w4_73, tc74, tr74_0, tr74_1, tr74_2, tr74_3, tr74_4, tr74_5, tr74_6, ta75, tn75, ta76, tn76, ta77, tn77, ta78, tn78, ta79, tn79, tc63, tr63_0, tr63_1, tr63_3, tr63_4, tr63_5, tr63_6, ta64, tn64, ta65, tn65, ta66, tn66, ta67, tn67, xLoad_i, xLoad_l, xLoad_r, xInc_s, xBr_t, xBr_f, xNz_s, xGf_s, xPf_s, xPz_s, xLd_2, xLd_7, xLd_10, xLdb_3, xLdb_5, xLdb_9, xLdl_4, xLdr_6, xSt_2, xStl_4, xStb_3, xStb_5, xLen_s, xLen_10, xCpy_s, xIv_s, xMx_s, mCont_s, mCont_n, w32_s, w64_s, upC_e, upC_n, upC_u, upC_c, mEn_c, mEn_n, mcw_i, mcw_l, mcw_r, mcat_n, mcat_i, mcat_l, mcat_r, xlong_i, xlong_l, xlong_r, xlong_n, s1_at, s2_at, ↓reduceIte, reduceCtorEq, and_self, true_and, and_true, false_and, and_false, Bool.false_eq_true, ne_eq, not_true_eq_false, not_false_eq_true, or_true, true_or, or_false, false_or, or_self, Int.tmod_eq_emod_of_nonneg, Int.tdiv_eq_ediv_of_nonneg, Classical.not_not, xSw, rOK, b2i_ok, b2i_0, b2i_1, Nat.reduceAdd, Nat.reduceSub, Nat.reduceMul, Nat.reduceEqDiff, Nat.reduceLeDiff, Nat.reduceLT, Int.reduceAdd, Int.reduceSub, Int.reduceMul, Int.reduceNeg, Int.reduceEq, Int.reduceNe, Int.reduceLT, Int.reduceLE, Int.reduceToNat, Int.reduceTDiv, Int.reduceTMod, b2i_em, g0, g2, g3, g4]
          refine ih _ _ ⟨fr_trans hf (fr_mono f4 (by decide)), CHs_fr hC' f4 (by decide), hM4, fun b hb x hx => ?_, ?_, ?_, ?_, ?_⟩
          any_goals (simp [s1_at, s2_at, mEn_c, mcw_r, mcw_i, mcw_l, xlong_i, xlong_r, xlong_l, xlong_n, g0, g2, g3, g4]; done)
          by_cases e : b = c
          · rw [e]; exact hno4 x (by omega) hx
          · exact hnone b (by omega) x hx
        · rw [hv0, Nat.zero_mul] at hx1 hy
          rw [hv0, Nat.zero_add, Nat.one_mul] at hx2
          have hB1 : bF (gdI ru A L F n C sh W BL) (fun x => csV sh (ov C n x) n) (C ^ n) = ((c : Int), x) := by
            rw [bF_is h00 hx2 (gdI_1.mpr hx.1) (fun t ht hok => ?_) (fun t ht hok e => ?_)]
            · exact Prod.ext hx.2 rfl
            · have h1 := csV_0 (sh := sh) (v := ov C n t) n
              obtain ⟨b, hb⟩ := Int.eq_ofNat_of_zero_le h1
              have h2 := hx.2
              apply Classical.byContradiction
              intro g
              exact hnone b (by omega) t ht ⟨gdI_1.mp hok, hb⟩
            · exact hy t (by omega) ht ⟨gdI_1.mp hok, by rw [e]; exact hx.2⟩
          have hr := hB M4 ((c : Int), x) (fr_trans hf (fr_mono f4 (by decide))) hno hB1.symm (fun _ j hj => hov j hj)
          simp (disch := first | decide | omega) only [b4, w4_0, w4_1, w4_4, w4_7, w4_8, w4_9, w4_12, w4_15, w4_16, w4_17, w4_18, w4_19, w4_22, w4_23, w4_26, w4_29, w4_30, w4_33, w4_36, w4_37, w4_40, w4_41, w4_42, w4_43, w4_44, w4_48, w4_49, w4_52, w4_53, w4_54, w4_56, w4_57, w4_60, w4_63, w4_65, w4_66, w4_69, w4_72, w4_73, tc74, tr74_0, tr74_1, tr74_2, tr74_3, tr74_4, tr74_5, tr74_6, ta75, tn75, ta76, tn76, ta77, tn77, ta78, tn78, ta79, tn79, tc63, tr63_0, tr63_1, tr63_3, tr63_4, tr63_5, tr63_6, ta64, tn64, ta65, tn65, ta66, tn66, ta67, tn67, xLoad_i, xLoad_l, xLoad_r, xInc_s, xBr_t, xBr_f, xNz_s, xGf_s, xPf_s, xPz_s, xLd_2, xLd_7, xLd_10, xLdb_3, xLdb_5, xLdb_9, xLdl_4, xLdr_6, xSt_2, xStl_4, xStb_3, xStb_5, xLen_s, xLen_10, xCpy_s, xIv_s, xMx_s, mCont_s, mCont_n, w32_s, w64_s, upC_e, upC_n, upC_u, upC_c, mEn_c, mEn_n, mcw_i, mcw_l, mcw_r, mcat_n, mcat_i, mcat_l, mcat_r, xlong_i, xlong_l, xlong_r, xlong_n, s1_at, s2_at, ↓reduceIte, reduceCtorEq, and_self, true_and, and_true, false_and, and_false, Bool.false_eq_true, ne_eq, not_true_eq_false, not_false_eq_true, or_true, true_or, or_false, false_or, or_self, Int.tmod_eq_emod_of_nonneg, Int.tdiv_eq_ediv_of_nonneg, Classical.not_not, xSw, rOK, b2i_ok, b2i_0, b2i_1, Nat.reduceAdd, Nat.reduceSub, Nat.reduceMul, Nat.reduceEqDiff, Nat.reduceLeDiff, Nat.reduceLT, Int.reduceAdd, Int.reduceSub, Int.reduceMul, Int.reduceNeg, Int.reduceEq, Int.reduceNe, Int.reduceLT, Int.reduceLE, Int.reduceToNat, Int.reduceTDiv, Int.reduceTMod, b2i_em, g0, g2, g3, g4]
          exact hr
      · obtain ⟨hf, hC', hM', hnone, g0, g2, g3, g4⟩ := hI
        have hB1 := bF_none (ok := gdI ru A L F n C sh W BL) (hr := fun x => csV sh (ov C n x) n) h00 (n := C ^ n) (fun t ht hok => by
          have h1 := csV_0 (sh := sh) (v := ov C n t) n
          obtain ⟨b, hb⟩ := Int.eq_ofNat_of_zero_le h1
          have h2 := hdear t
          exact hnone b (by omega) t ht ⟨gdI_1.mp hok, hb⟩)
        have hr := hB M' _ hf hno rfl (fun g => absurd hB1 g)
        rw [hB1] at hr
        rw [w4_46]
        simp (disch := first | decide | omega) only [b4, w4_0, w4_1, w4_4, w4_7, w4_8, w4_9, w4_12, w4_15, w4_16, w4_17, w4_18, w4_19, w4_22, w4_23, w4_26, w4_29, w4_30, w4_33, w4_36, w4_37, w4_40, w4_41, w4_42, w4_43, w4_44, w4_48, w4_49, w4_52, w4_53, w4_54, w4_56, w4_57, w4_60, w4_63, w4_65, w4_66, w4_69, w4_72, w4_73, tc74, tr74_0, tr74_1, tr74_2, tr74_3, tr74_4, tr74_5, tr74_6, ta75, tn75, ta76, tn76, ta77, tn77, ta78, tn78, ta79, tn79, tc63, tr63_0, tr63_1, tr63_3, tr63_4, tr63_5, tr63_6, ta64, tn64, ta65, tn65, ta66, tn66, ta67, tn67, xLoad_i, xLoad_l, xLoad_r, xInc_s, xBr_t, xBr_f, xNz_s, xGf_s, xPf_s, xPz_s, xLd_2, xLd_7, xLd_10, xLdb_3, xLdb_5, xLdb_9, xLdl_4, xLdr_6, xSt_2, xStl_4, xStb_3, xStb_5, xLen_s, xLen_10, xCpy_s, xIv_s, xMx_s, mCont_s, mCont_n, w32_s, w64_s, upC_e, upC_n, upC_u, upC_c, mEn_c, mEn_n, mcw_i, mcw_l, mcw_r, mcat_n, mcat_i, mcat_l, mcat_r, xlong_i, xlong_l, xlong_r, xlong_n, s1_at, s2_at, ↓reduceIte, reduceCtorEq, and_self, true_and, and_true, false_and, and_false, Bool.false_eq_true, ne_eq, not_true_eq_false, not_false_eq_true, or_true, true_or, or_false, false_or, or_self, Int.tmod_eq_emod_of_nonneg, Int.tdiv_eq_ediv_of_nonneg, Classical.not_not, xSw, rOK, b2i_ok, b2i_0, b2i_1, Nat.reduceAdd, Nat.reduceSub, Nat.reduceMul, Nat.reduceEqDiff, Nat.reduceLeDiff, Nat.reduceLT, Int.reduceAdd, Int.reduceSub, Int.reduceMul, Int.reduceNeg, Int.reduceEq, Int.reduceNe, Int.reduceLT, Int.reduceLE, Int.reduceToNat, Int.reduceTDiv, Int.reduceTMod, b2i_em, g0, g2, g3, g4]
        exact hr
    rcases hsh with e | e
    · have eD := hD.2 e
      have eD2 : (n : Int) * 5 = D := by omega
      simp (disch := first | decide | omega) only [b4, w4_0, w4_1, w4_4, w4_7, w4_8, w4_9, w4_12, w4_15, w4_16, w4_17, w4_18, w4_19, w4_22, w4_23, w4_26, w4_29, w4_30, w4_33, w4_36, w4_37, w4_40, w4_41, w4_42, w4_43, w4_44, w4_48, w4_49, w4_52, w4_53, w4_54, w4_56, w4_57, w4_60, w4_63, w4_65, w4_66, w4_69, w4_72, w4_73, tc74, tr74_0, tr74_1, tr74_2, tr74_3, tr74_4, tr74_5, tr74_6, ta75, tn75, ta76, tn76, ta77, tn77, ta78, tn78, ta79, tn79, tc63, tr63_0, tr63_1, tr63_3, tr63_4, tr63_5, tr63_6, ta64, tn64, ta65, tn65, ta66, tn66, ta67, tn67, xLoad_i, xLoad_l, xLoad_r, xInc_s, xBr_t, xBr_f, xNz_s, xGf_s, xPf_s, xPz_s, xLd_2, xLd_7, xLd_10, xLdb_3, xLdb_5, xLdb_9, xLdl_4, xLdr_6, xSt_2, xStl_4, xStb_3, xStb_5, xLen_s, xLen_10, xCpy_s, xIv_s, xMx_s, mCont_s, mCont_n, w32_s, w64_s, upC_e, upC_n, upC_u, upC_c, mEn_c, mEn_n, mcw_i, mcw_l, mcw_r, mcat_n, mcat_i, mcat_l, mcat_r, xlong_i, xlong_l, xlong_r, xlong_n, s1_at, s2_at, ↓reduceIte, reduceCtorEq, and_self, true_and, and_true, false_and, and_false, Bool.false_eq_true, ne_eq, not_true_eq_false, not_false_eq_true, or_true, true_or, or_false, false_or, or_self, Int.tmod_eq_emod_of_nonneg, Int.tdiv_eq_ediv_of_nonneg, Classical.not_not, xSw, rOK, b2i_ok, b2i_0, b2i_1, Nat.reduceAdd, Nat.reduceSub, Nat.reduceMul, Nat.reduceEqDiff, Nat.reduceLeDiff, Nat.reduceLT, Int.reduceAdd, Int.reduceSub, Int.reduceMul, Int.reduceNeg, Int.reduceEq, Int.reduceNe, Int.reduceLT, Int.reduceLE, Int.reduceToNat, Int.reduceTDiv, Int.reduceTMod, b2i_em, c7, c9, e, eD2]
      refine hloop _ ?_ ?_ ?_ ?_
      all_goals simp [s1_at, s2_at, mEn_c, mcw_r, mcw_i, mcw_l, xlong_i, xlong_r, xlong_l, xlong_n]
    · have eD := hD.1 e
      rw [eD] at hloop
      simp (disch := first | decide | omega) only [b4, w4_0, w4_1, w4_4, w4_7, w4_8, w4_9, w4_12, w4_15, w4_16, w4_17, w4_18, w4_19, w4_22, w4_23, w4_26, w4_29, w4_30, w4_33, w4_36, w4_37, w4_40, w4_41, w4_42, w4_43, w4_44, w4_48, w4_49, w4_52, w4_53, w4_54, w4_56, w4_57, w4_60, w4_63, w4_65, w4_66, w4_69, w4_72, w4_73, tc74, tr74_0, tr74_1, tr74_2, tr74_3, tr74_4, tr74_5, tr74_6, ta75, tn75, ta76, tn76, ta77, tn77, ta78, tn78, ta79, tn79, tc63, tr63_0, tr63_1, tr63_3, tr63_4, tr63_5, tr63_6, ta64, tn64, ta65, tn65, ta66, tn66, ta67, tn67, xLoad_i, xLoad_l, xLoad_r, xInc_s, xBr_t, xBr_f, xNz_s, xGf_s, xPf_s, xPz_s, xLd_2, xLd_7, xLd_10, xLdb_3, xLdb_5, xLdb_9, xLdl_4, xLdr_6, xSt_2, xStl_4, xStb_3, xStb_5, xLen_s, xLen_10, xCpy_s, xIv_s, xMx_s, mCont_s, mCont_n, w32_s, w64_s, upC_e, upC_n, upC_u, upC_c, mEn_c, mEn_n, mcw_i, mcw_l, mcw_r, mcat_n, mcat_i, mcat_l, mcat_r, xlong_i, xlong_l, xlong_r, xlong_n, s1_at, s2_at, ↓reduceIte, reduceCtorEq, and_self, true_and, and_true, false_and, and_false, Bool.false_eq_true, ne_eq, not_true_eq_false, not_false_eq_true, or_true, true_or, or_false, false_or, or_self, Int.tmod_eq_emod_of_nonneg, Int.tdiv_eq_ediv_of_nonneg, Classical.not_not, xSw, rOK, b2i_ok, b2i_0, b2i_1, Nat.reduceAdd, Nat.reduceSub, Nat.reduceMul, Nat.reduceEqDiff, Nat.reduceLeDiff, Nat.reduceLT, Int.reduceAdd, Int.reduceSub, Int.reduceMul, Int.reduceNeg, Int.reduceEq, Int.reduceNe, Int.reduceLT, Int.reduceLE, Int.reduceToNat, Int.reduceTDiv, Int.reduceTMod, b2i_em, c7, c9, e]
      refine hloop _ ?_ ?_ ?_ ?_
      all_goals simp [s1_at, s2_at, mEn_c, mcw_r, mcw_i, mcw_l, xlong_i, xlong_r, xlong_l, xlong_n]
