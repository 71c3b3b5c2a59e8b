/-! worlds: both sides at once -/
theorem J_HD {S : Int → Int} {M : mM} {lw : Nat → RU} (h : J S M lw) : HDs M (M 98) ∧ HRs (M 98) := by
  obtain ⟨-, z5, -, -, -, zh, -⟩ := h.1.2.2.2.2.2
  refine ⟨⟨z5.1, z5.2, fun k hk => ?_⟩, z5.2, fun k hk => ?_⟩
  · have := zh k (by omega)
    exact ⟨this.1, this.2.1, (this.2.2 hk).1, (this.2.2 hk).2.1⟩
  · have := (zh k (by omega)).2.2 hk
    exact ⟨this.1, this.2.1⟩
set_option maxHeartbeats 1000000 in
theorem op_worlds {s i x : Int} (hs : R32 s) : OPJ 148 265 [vi s, vi i, vi x] := by
  intro S d M lw h K hK
  have haw := J_AW h
  have hC := CC_CX (J_CC h)
  have b0 := haw.1.1
  have b1 := haw.1.2.1
  obtain ⟨hD, hR⟩ := J_HD h
  have hend : ∀ z M1, fr QX M M1 → (okW (M 98) s i x → wldP (ruJ (M 98) lw) (M 98) (mbr s 31) i x z) → (¬ okW (M 98) s i x → z = -1) → K (some (vi z)) M1 := fun z M1 f1 hz hz0 => by
    refine hK z M1 (fun K2 hK2 => ?_)
    refine r_worlds (f1 98 (by decide)) haw hR (RR_fr (J_RR h) f1 (by decide)) (fun M2 y f2 q97 ho hy => ?_) (fun M2 f2 q97 ho => ?_)
    · rw [wldP_u ho.2.1 hy (hz ho)]
      exact hK2 _ lw (J_q h f1 f2 q97)
    · rw [← hz0 ho]
      exact hK2 _ lw (J_q h f1 f2 q97)
  by_cases c : chO (M 98) s 5
  · have w1 := fun (d : Nat) (K : mQ) => a_areW1 (d := d) (M := M) (K := K) (n := 5) hC hs c
    have e31 := mbr_31 b1 c
    have hl6 : (mbr s 31).length ≤ 5 := by have := c.2.1; rw [← e31] at this; omega
    have hl12 : ∀ i, i < (mbr s 31).length → (mbr s 31).getD i 0 < 12 := fun i hi => by
      rw [e31] at hi ⊢
      have := (mbr_get hi).1
      omega
    have hd : d + 39 = (d + 32 - (mbr s 31).length) + (mbr s 31).length + 7 := by omega
    by_cases ci : -1 ≤ i
    · by_cases cx : i = -1 ∨ isI s x
      · by_cases c1 : i = -1
        · simp (disch := first | decide | omega) only [b148, w148_0, w148_1, w148_4, w148_5, w148_6, w148_9, w148_12, w148_13, w148_14, w148_17, w148_18, w148_19, w148_20, w148_21, w148_24, w148_25, w148_26, w148_29, w148_32, w148_33, w148_34, w148_35, w148_38, w148_39, w148_40, w148_43, w148_45, w148_46, w148_47, w148_50, w148_52, w148_53, w148_55, w148_56, w148_59, w148_60, w148_63, w148_64, w148_67, w148_70, w148_71, tc1, tr1_0, tr1_1, tr1_2, tr1_3, tr1_4, tr1_5, tr1_6, tr1_7, tr1_8, tr1_9, tr1_10, tr1_11, tc2, tr2_2, tr2_3, tr2_4, tr2_5, tr2_6, tr2_7, tr2_8, tr2_9, tr2_12, tr2_13, tr2_15, ta3, tn3, ta4, tn4, ta5, tn5, ta6, tn6, ta7, tn7, ta8, tn8, ta9, tn9, ta10, tn10, ta11, tn11, ta12, tn12, ta13, tn13, tc80, tr80_0, tr80_1, tr80_2, tr80_3, tr80_4, tr80_5, tr80_6, ta81, tn81, ta82, tn82, ta83, tn83, ta84, tn84, ta85, tn85, xLoad_i, xLoad_l, xLoad_r, xInc_s, xBr_t, xBr_f, xNz_s, xGf_s, xPf_s, xPz_s, xLd_2, xLd_7, xLd_10, xLdb_3, xLdb_5, xLdb_9, xLdl_4, xLdr_6, xSt_2, xStl_4, xStb_3, xStb_5, xLen_s, xLen_10, xCpy_s, xIv_s, xMx_s, mCont_s, mCont_n, w32_s, w64_s, upC_e, upC_n, upC_u, upC_c, mEn_c, mEn_n, mcw_i, mcw_l, mcw_r, mcat_n, mcat_i, mcat_l, mcat_r, xlong_i, xlong_l, xlong_r, xlong_n, s1_at, s2_at, ↓reduceIte, reduceCtorEq, and_self, true_and, and_true, false_and, and_false, Bool.false_eq_true, ne_eq, not_true_eq_false, not_false_eq_true, or_true, true_or, or_false, false_or, or_self, Int.tmod_eq_emod_of_nonneg, Int.tdiv_eq_ediv_of_nonneg, Classical.not_not, xSw, rOK, b2i_ok, b2i_0, b2i_1, Nat.reduceAdd, Nat.reduceSub, Nat.reduceMul, Nat.reduceEqDiff, Nat.reduceLeDiff, Nat.reduceLT, Int.reduceAdd, Int.reduceSub, Int.reduceMul, Int.reduceNeg, Int.reduceEq, Int.reduceNe, Int.reduceLT, Int.reduceLE, Int.reduceToNat, Int.reduceTDiv, Int.reduceTMod, b2i_em, w1]
          rw [hd]
          refine c_goThrough (n := (mbr s 31).length) (L := mbr s 31) (A := M 98) (ru := ruJ (M 98) lw) hC hD hl6 rfl rfl hl12 (fun M1 f1 h7 hL hT hN => ?_) (fun M1 y f1 h7 hL hy hg hcn hp => ?_)
          · have hr := hend _ M1 (fr_mono f1 QG2X) (fun _ => wldP_end hT.2.2) (fun g => absurd ⟨c, ci, cx⟩ g)
            rw [if_pos c1] at hr
            simp (disch := first | decide | omega) only [b148, w148_0, w148_1, w148_4, w148_5, w148_6, w148_9, w148_12, w148_13, w148_14, w148_17, w148_18, w148_19, w148_20, w148_21, w148_24, w148_25, w148_26, w148_29, w148_32, w148_33, w148_34, w148_35, w148_38, w148_39, w148_40, w148_43, w148_45, w148_46, w148_47, w148_50, w148_52, w148_53, w148_55, w148_56, w148_59, w148_60, w148_63, w148_64, w148_67, w148_70, w148_71, tc1, tr1_0, tr1_1, tr1_2, tr1_3, tr1_4, tr1_5, tr1_6, tr1_7, tr1_8, tr1_9, tr1_10, tr1_11, tc2, tr2_2, tr2_3, tr2_4, tr2_5, tr2_6, tr2_7, tr2_8, tr2_9, tr2_12, tr2_13, tr2_15, ta3, tn3, ta4, tn4, ta5, tn5, ta6, tn6, ta7, tn7, ta8, tn8, ta9, tn9, ta10, tn10, ta11, tn11, ta12, tn12, ta13, tn13, tc80, tr80_0, tr80_1, tr80_2, tr80_3, tr80_4, tr80_5, tr80_6, ta81, tn81, ta82, tn82, ta83, tn83, ta84, tn84, ta85, tn85, xLoad_i, xLoad_l, xLoad_r, xInc_s, xBr_t, xBr_f, xNz_s, xGf_s, xPf_s, xPz_s, xLd_2, xLd_7, xLd_10, xLdb_3, xLdb_5, xLdb_9, xLdl_4, xLdr_6, xSt_2, xStl_4, xStb_3, xStb_5, xLen_s, xLen_10, xCpy_s, xIv_s, xMx_s, mCont_s, mCont_n, w32_s, w64_s, upC_e, upC_n, upC_u, upC_c, mEn_c, mEn_n, mcw_i, mcw_l, mcw_r, mcat_n, mcat_i, mcat_l, mcat_r, xlong_i, xlong_l, xlong_r, xlong_n, s1_at, s2_at, ↓reduceIte, reduceCtorEq, and_self, true_and, and_true, false_and, and_false, Bool.false_eq_true, ne_eq, not_true_eq_false, not_false_eq_true, or_true, true_or, or_false, false_or, or_self, Int.tmod_eq_emod_of_nonneg, Int.tdiv_eq_ediv_of_nonneg, Classical.not_not, xSw, rOK, b2i_ok, b2i_0, b2i_1, Nat.reduceAdd, Nat.reduceSub, Nat.reduceMul, Nat.reduceEqDiff, Nat.reduceLeDiff, Nat.reduceLT, Int.reduceAdd, Int.reduceSub, Int.reduceMul, Int.reduceNeg, Int.reduceEq, Int.reduceNe, Int.reduceLT, Int.reduceLE, Int.reduceToNat, Int.reduceTDiv, Int.reduceTMod, b2i_em]
            exact hr
          · omega
        · have c2 : isI s x := by rcases cx with e | e; exact absurd e c1; exact e
          have w2 := fun (d : Nat) (M : mM) (K : mQ) => c_isI1 (d := d) (M := M) (K := K) c2
          obtain ⟨k, hk, ek, hx, hu⟩ := mbr_ask c2
          simp (disch := first | decide | omega) only [b148, w148_0, w148_1, w148_4, w148_5, w148_6, w148_9, w148_12, w148_13, w148_14, w148_17, w148_18, w148_19, w148_20, w148_21, w148_24, w148_25, w148_26, w148_29, w148_32, w148_33, w148_34, w148_35, w148_38, w148_39, w148_40, w148_43, w148_45, w148_46, w148_47, w148_50, w148_52, w148_53, w148_55, w148_56, w148_59, w148_60, w148_63, w148_64, w148_67, w148_70, w148_71, tc1, tr1_0, tr1_1, tr1_2, tr1_3, tr1_4, tr1_5, tr1_6, tr1_7, tr1_8, tr1_9, tr1_10, tr1_11, tc2, tr2_2, tr2_3, tr2_4, tr2_5, tr2_6, tr2_7, tr2_8, tr2_9, tr2_12, tr2_13, tr2_15, ta3, tn3, ta4, tn4, ta5, tn5, ta6, tn6, ta7, tn7, ta8, tn8, ta9, tn9, ta10, tn10, ta11, tn11, ta12, tn12, ta13, tn13, tc80, tr80_0, tr80_1, tr80_2, tr80_3, tr80_4, tr80_5, tr80_6, ta81, tn81, ta82, tn82, ta83, tn83, ta84, tn84, ta85, tn85, xLoad_i, xLoad_l, xLoad_r, xInc_s, xBr_t, xBr_f, xNz_s, xGf_s, xPf_s, xPz_s, xLd_2, xLd_7, xLd_10, xLdb_3, xLdb_5, xLdb_9, xLdl_4, xLdr_6, xSt_2, xStl_4, xStb_3, xStb_5, xLen_s, xLen_10, xCpy_s, xIv_s, xMx_s, mCont_s, mCont_n, w32_s, w64_s, upC_e, upC_n, upC_u, upC_c, mEn_c, mEn_n, mcw_i, mcw_l, mcw_r, mcat_n, mcat_i, mcat_l, mcat_r, xlong_i, xlong_l, xlong_r, xlong_n, s1_at, s2_at, ↓reduceIte, reduceCtorEq, and_self, true_and, and_true, false_and, and_false, Bool.false_eq_true, ne_eq, not_true_eq_false, not_false_eq_true, or_true, true_or, or_false, false_or, or_self, Int.tmod_eq_emod_of_nonneg, Int.tdiv_eq_ediv_of_nonneg, Classical.not_not, xSw, rOK, b2i_ok, b2i_0, b2i_1, Nat.reduceAdd, Nat.reduceSub, Nat.reduceMul, Nat.reduceEqDiff, Nat.reduceLeDiff, Nat.reduceLT, Int.reduceAdd, Int.reduceSub, Int.reduceMul, Int.reduceNeg, Int.reduceEq, Int.reduceNe, Int.reduceLT, Int.reduceLE, Int.reduceToNat, Int.reduceTDiv, Int.reduceTMod, b2i_em, w1, w2]
          rw [hd]
          refine c_goThrough (n := (mbr s 31).length) (L := mbr s 31) (A := M 98) (ru := ruJ (M 98) lw) hC hD hl6 rfl rfl hl12 (fun M1 f1 h7 hL hT hN => ?_) (fun M1 y f1 h7 hL hy hg hcn hp => ?_)
          · have hr := hend _ M1 (fr_mono f1 QG2X) (fun _ => wldP_end hT.2.2) (fun g => absurd ⟨c, ci, cx⟩ g)
            rw [if_neg c1] at hr
            have hT2 := hT.2.2
            simp (disch := first | decide | omega) only [b148, w148_0, w148_1, w148_4, w148_5, w148_6, w148_9, w148_12, w148_13, w148_14, w148_17, w148_18, w148_19, w148_20, w148_21, w148_24, w148_25, w148_26, w148_29, w148_32, w148_33, w148_34, w148_35, w148_38, w148_39, w148_40, w148_43, w148_45, w148_46, w148_47, w148_50, w148_52, w148_53, w148_55, w148_56, w148_59, w148_60, w148_63, w148_64, w148_67, w148_70, w148_71, tc1, tr1_0, tr1_1, tr1_2, tr1_3, tr1_4, tr1_5, tr1_6, tr1_7, tr1_8, tr1_9, tr1_10, tr1_11, tc2, tr2_2, tr2_3, tr2_4, tr2_5, tr2_6, tr2_7, tr2_8, tr2_9, tr2_12, tr2_13, tr2_15, ta3, tn3, ta4, tn4, ta5, tn5, ta6, tn6, ta7, tn7, ta8, tn8, ta9, tn9, ta10, tn10, ta11, tn11, ta12, tn12, ta13, tn13, tc80, tr80_0, tr80_1, tr80_2, tr80_3, tr80_4, tr80_5, tr80_6, ta81, tn81, ta82, tn82, ta83, tn83, ta84, tn84, ta85, tn85, xLoad_i, xLoad_l, xLoad_r, xInc_s, xBr_t, xBr_f, xNz_s, xGf_s, xPf_s, xPz_s, xLd_2, xLd_7, xLd_10, xLdb_3, xLdb_5, xLdb_9, xLdl_4, xLdr_6, xSt_2, xStl_4, xStb_3, xStb_5, xLen_s, xLen_10, xCpy_s, xIv_s, xMx_s, mCont_s, mCont_n, w32_s, w64_s, upC_e, upC_n, upC_u, upC_c, mEn_c, mEn_n, mcw_i, mcw_l, mcw_r, mcat_n, mcat_i, mcat_l, mcat_r, xlong_i, xlong_l, xlong_r, xlong_n, s1_at, s2_at, ↓reduceIte, reduceCtorEq, and_self, true_and, and_true, false_and, and_false, Bool.false_eq_true, ne_eq, not_true_eq_false, not_false_eq_true, or_true, true_or, or_false, false_or, or_self, Int.tmod_eq_emod_of_nonneg, Int.tdiv_eq_ediv_of_nonneg, Classical.not_not, xSw, rOK, b2i_ok, b2i_0, b2i_1, Nat.reduceAdd, Nat.reduceSub, Nat.reduceMul, Nat.reduceEqDiff, Nat.reduceLeDiff, Nat.reduceLT, Int.reduceAdd, Int.reduceSub, Int.reduceMul, Int.reduceNeg, Int.reduceEq, Int.reduceNe, Int.reduceLT, Int.reduceLE, Int.reduceToNat, Int.reduceTDiv, Int.reduceTMod, b2i_em]
            exact hr
          · have hz := wldP_hit (x := x) hy hg hcn
            rw [ek] at hz
            have hr := hend _ M1 (fr_mono f1 QG2X) (fun _ => hz) (fun g => absurd ⟨c, ci, cx⟩ g)
            simp (disch := first | decide | omega) only [b148, w148_0, w148_1, w148_4, w148_5, w148_6, w148_9, w148_12, w148_13, w148_14, w148_17, w148_18, w148_19, w148_20, w148_21, w148_24, w148_25, w148_26, w148_29, w148_32, w148_33, w148_34, w148_35, w148_38, w148_39, w148_40, w148_43, w148_45, w148_46, w148_47, w148_50, w148_52, w148_53, w148_55, w148_56, w148_59, w148_60, w148_63, w148_64, w148_67, w148_70, w148_71, tc1, tr1_0, tr1_1, tr1_2, tr1_3, tr1_4, tr1_5, tr1_6, tr1_7, tr1_8, tr1_9, tr1_10, tr1_11, tc2, tr2_2, tr2_3, tr2_4, tr2_5, tr2_6, tr2_7, tr2_8, tr2_9, tr2_12, tr2_13, tr2_15, ta3, tn3, ta4, tn4, ta5, tn5, ta6, tn6, ta7, tn7, ta8, tn8, ta9, tn9, ta10, tn10, ta11, tn11, ta12, tn12, ta13, tn13, tc80, tr80_0, tr80_1, tr80_2, tr80_3, tr80_4, tr80_5, tr80_6, ta81, tn81, ta82, tn82, ta83, tn83, ta84, tn84, ta85, tn85, xLoad_i, xLoad_l, xLoad_r, xInc_s, xBr_t, xBr_f, xNz_s, xGf_s, xPf_s, xPz_s, xLd_2, xLd_7, xLd_10, xLdb_3, xLdb_5, xLdb_9, xLdl_4, xLdr_6, xSt_2, xStl_4, xStb_3, xStb_5, xLen_s, xLen_10, xCpy_s, xIv_s, xMx_s, mCont_s, mCont_n, w32_s, w64_s, upC_e, upC_n, upC_u, upC_c, mEn_c, mEn_n, mcw_i, mcw_l, mcw_r, mcat_n, mcat_i, mcat_l, mcat_r, xlong_i, xlong_l, xlong_r, xlong_n, s1_at, s2_at, ↓reduceIte, reduceCtorEq, and_self, true_and, and_true, false_and, and_false, Bool.false_eq_true, ne_eq, not_true_eq_false, not_false_eq_true, or_true, true_or, or_false, false_or, or_self, Int.tmod_eq_emod_of_nonneg, Int.tdiv_eq_ediv_of_nonneg, Classical.not_not, xSw, rOK, b2i_ok, b2i_0, b2i_1, Nat.reduceAdd, Nat.reduceSub, Nat.reduceMul, Nat.reduceEqDiff, Nat.reduceLeDiff, Nat.reduceLT, Int.reduceAdd, Int.reduceSub, Int.reduceMul, Int.reduceNeg, Int.reduceEq, Int.reduceNe, Int.reduceLT, Int.reduceLE, Int.reduceToNat, Int.reduceTDiv, Int.reduceTMod, b2i_em]
            rw [c_place2 hl6 h7 rfl hL hk hx hu, hp k hk]
            simp (disch := first | decide | omega) only [b148, w148_0, w148_1, w148_4, w148_5, w148_6, w148_9, w148_12, w148_13, w148_14, w148_17, w148_18, w148_19, w148_20, w148_21, w148_24, w148_25, w148_26, w148_29, w148_32, w148_33, w148_34, w148_35, w148_38, w148_39, w148_40, w148_43, w148_45, w148_46, w148_47, w148_50, w148_52, w148_53, w148_55, w148_56, w148_59, w148_60, w148_63, w148_64, w148_67, w148_70, w148_71, tc1, tr1_0, tr1_1, tr1_2, tr1_3, tr1_4, tr1_5, tr1_6, tr1_7, tr1_8, tr1_9, tr1_10, tr1_11, tc2, tr2_2, tr2_3, tr2_4, tr2_5, tr2_6, tr2_7, tr2_8, tr2_9, tr2_12, tr2_13, tr2_15, ta3, tn3, ta4, tn4, ta5, tn5, ta6, tn6, ta7, tn7, ta8, tn8, ta9, tn9, ta10, tn10, ta11, tn11, ta12, tn12, ta13, tn13, tc80, tr80_0, tr80_1, tr80_2, tr80_3, tr80_4, tr80_5, tr80_6, ta81, tn81, ta82, tn82, ta83, tn83, ta84, tn84, ta85, tn85, xLoad_i, xLoad_l, xLoad_r, xInc_s, xBr_t, xBr_f, xNz_s, xGf_s, xPf_s, xPz_s, xLd_2, xLd_7, xLd_10, xLdb_3, xLdb_5, xLdb_9, xLdl_4, xLdr_6, xSt_2, xStl_4, xStb_3, xStb_5, xLen_s, xLen_10, xCpy_s, xIv_s, xMx_s, mCont_s, mCont_n, w32_s, w64_s, upC_e, upC_n, upC_u, upC_c, mEn_c, mEn_n, mcw_i, mcw_l, mcw_r, mcat_n, mcat_i, mcat_l, mcat_r, xlong_i, xlong_l, xlong_r, xlong_n, s1_at, s2_at, ↓reduceIte, reduceCtorEq, and_self, true_and, and_true, false_and, and_false, Bool.false_eq_true, ne_eq, not_true_eq_false, not_false_eq_true, or_true, true_or, or_false, false_or, or_self, Int.tmod_eq_emod_of_nonneg, Int.tdiv_eq_ediv_of_nonneg, Classical.not_not, xSw, rOK, b2i_ok, b2i_0, b2i_1, Nat.reduceAdd, Nat.reduceSub, Nat.reduceMul, Nat.reduceEqDiff, Nat.reduceLeDiff, Nat.reduceLT, Int.reduceAdd, Int.reduceSub, Int.reduceMul, Int.reduceNeg, Int.reduceEq, Int.reduceNe, Int.reduceLT, Int.reduceLE, Int.reduceToNat, Int.reduceTDiv, Int.reduceTMod, b2i_em]
            exact hr
      · have c1 : ¬ (i = -1) := fun e => cx (Or.inl e)
        have w2 := fun (d : Nat) (M : mM) (K : mQ) => c_isI0 (d := d) (M := M) (K := K) (fun e => cx (Or.inr e) : ¬ isI s x)
        have hr := hend (-1) M fr_refl (fun g => absurd g.2.2 cx) (fun _ => rfl)
        simp (disch := first | decide | omega) only [b148, w148_0, w148_1, w148_4, w148_5, w148_6, w148_9, w148_12, w148_13, w148_14, w148_17, w148_18, w148_19, w148_20, w148_21, w148_24, w148_25, w148_26, w148_29, w148_32, w148_33, w148_34, w148_35, w148_38, w148_39, w148_40, w148_43, w148_45, w148_46, w148_47, w148_50, w148_52, w148_53, w148_55, w148_56, w148_59, w148_60, w148_63, w148_64, w148_67, w148_70, w148_71, tc1, tr1_0, tr1_1, tr1_2, tr1_3, tr1_4, tr1_5, tr1_6, tr1_7, tr1_8, tr1_9, tr1_10, tr1_11, tc2, tr2_2, tr2_3, tr2_4, tr2_5, tr2_6, tr2_7, tr2_8, tr2_9, tr2_12, tr2_13, tr2_15, ta3, tn3, ta4, tn4, ta5, tn5, ta6, tn6, ta7, tn7, ta8, tn8, ta9, tn9, ta10, tn10, ta11, tn11, ta12, tn12, ta13, tn13, tc80, tr80_0, tr80_1, tr80_2, tr80_3, tr80_4, tr80_5, tr80_6, ta81, tn81, ta82, tn82, ta83, tn83, ta84, tn84, ta85, tn85, xLoad_i, xLoad_l, xLoad_r, xInc_s, xBr_t, xBr_f, xNz_s, xGf_s, xPf_s, xPz_s, xLd_2, xLd_7, xLd_10, xLdb_3, xLdb_5, xLdb_9, xLdl_4, xLdr_6, xSt_2, xStl_4, xStb_3, xStb_5, xLen_s, xLen_10, xCpy_s, xIv_s, xMx_s, mCont_s, mCont_n, w32_s, w64_s, upC_e, upC_n, upC_u, upC_c, mEn_c, mEn_n, mcw_i, mcw_l, mcw_r, mcat_n, mcat_i, mcat_l, mcat_r, xlong_i, xlong_l, xlong_r, xlong_n, s1_at, s2_at, ↓reduceIte, reduceCtorEq, and_self, true_and, and_true, false_and, and_false, Bool.false_eq_true, ne_eq, not_true_eq_false, not_false_eq_true, or_true, true_or, or_false, false_or, or_self, Int.tmod_eq_emod_of_nonneg, Int.tdiv_eq_ediv_of_nonneg, Classical.not_not, xSw, rOK, b2i_ok, b2i_0, b2i_1, Nat.reduceAdd, Nat.reduceSub, Nat.reduceMul, Nat.reduceEqDiff, Nat.reduceLeDiff, Nat.reduceLT, Int.reduceAdd, Int.reduceSub, Int.reduceMul, Int.reduceNeg, Int.reduceEq, Int.reduceNe, Int.reduceLT, Int.reduceLE, Int.reduceToNat, Int.reduceTDiv, Int.reduceTMod, b2i_em, w1, w2]
        exact hr
    · have hr := hend (-1) M fr_refl (fun g => absurd g.2.1 ci) (fun _ => rfl)
      simp (disch := first | decide | omega) only [b148, w148_0, w148_1, w148_4, w148_5, w148_6, w148_9, w148_12, w148_13, w148_14, w148_17, w148_18, w148_19, w148_20, w148_21, w148_24, w148_25, w148_26, w148_29, w148_32, w148_33, w148_34, w148_35, w148_38, w148_39, w148_40, w148_43, w148_45, w148_46, w148_47, w148_50, w148_52, w148_53, w148_55, w148_56, w148_59, w148_60, w148_63, w148_64, w148_67, w148_70, w148_71, tc1, tr1_0, tr1_1, tr1_2, tr1_3, tr1_4, tr1_5, tr1_6, tr1_7, tr1_8, tr1_9, tr1_10, tr1_11, tc2, tr2_2, tr2_3, tr2_4, tr2_5, tr2_6, tr2_7, tr2_8, tr2_9, tr2_12, tr2_13, tr2_15, ta3, tn3, ta4, tn4, ta5, tn5, ta6, tn6, ta7, tn7, ta8, tn8, ta9, tn9, ta10, tn10, ta11, tn11, ta12, tn12, ta13, tn13, tc80, tr80_0, tr80_1, tr80_2, tr80_3, tr80_4, tr80_5, tr80_6, ta81, tn81, ta82, tn82, ta83, tn83, ta84, tn84, ta85, tn85, xLoad_i, xLoad_l, xLoad_r, xInc_s, xBr_t, xBr_f, xNz_s, xGf_s, xPf_s, xPz_s, xLd_2, xLd_7, xLd_10, xLdb_3, xLdb_5, xLdb_9, xLdl_4, xLdr_6, xSt_2, xStl_4, xStb_3, xStb_5, xLen_s, xLen_10, xCpy_s, xIv_s, xMx_s, mCont_s, mCont_n, w32_s, w64_s, upC_e, upC_n, upC_u, upC_c, mEn_c, mEn_n, mcw_i, mcw_l, mcw_r, mcat_n, mcat_i, mcat_l, mcat_r, xlong_i, xlong_l, xlong_r, xlong_n, s1_at, s2_at, ↓reduceIte, reduceCtorEq, and_self, true_and, and_true, false_and, and_false, Bool.false_eq_true, ne_eq, not_true_eq_false, not_false_eq_true, or_true, true_or, or_false, false_or, or_self, Int.tmod_eq_emod_of_nonneg, Int.tdiv_eq_ediv_of_nonneg, Classical.not_not, xSw, rOK, b2i_ok, b2i_0, b2i_1, Nat.reduceAdd, Nat.reduceSub, Nat.reduceMul, Nat.reduceEqDiff, Nat.reduceLeDiff, Nat.reduceLT, Int.reduceAdd, Int.reduceSub, Int.reduceMul, Int.reduceNeg, Int.reduceEq, Int.reduceNe, Int.reduceLT, Int.reduceLE, Int.reduceToNat, Int.reduceTDiv, Int.reduceTMod, b2i_em, w1]
      exact hr
  · have w1 := fun (d : Nat) (K : mQ) => a_areW0 (d := d) (M := M) (K := K) (n := 5) hC hs c
    have hr := hend (-1) M fr_refl (fun g => absurd g.1 c) (fun _ => rfl)
    simp (disch := first | decide | omega) only [b148, w148_0, w148_1, w148_4, w148_5, w148_6, w148_9, w148_12, w148_13, w148_14, w148_17, w148_18, w148_19, w148_20, w148_21, w148_24, w148_25, w148_26, w148_29, w148_32, w148_33, w148_34, w148_35, w148_38, w148_39, w148_40, w148_43, w148_45, w148_46, w148_47, w148_50, w148_52, w148_53, w148_55, w148_56, w148_59, w148_60, w148_63, w148_64, w148_67, w148_70, w148_71, tc1, tr1_0, tr1_1, tr1_2, tr1_3, tr1_4, tr1_5, tr1_6, tr1_7, tr1_8, tr1_9, tr1_10, tr1_11, tc2, tr2_2, tr2_3, tr2_4, tr2_5, tr2_6, tr2_7, tr2_8, tr2_9, tr2_12, tr2_13, tr2_15, ta3, tn3, ta4, tn4, ta5, tn5, ta6, tn6, ta7, tn7, ta8, tn8, ta9, tn9, ta10, tn10, ta11, tn11, ta12, tn12, ta13, tn13, tc80, tr80_0, tr80_1, tr80_2, tr80_3, tr80_4, tr80_5, tr80_6, ta81, tn81, ta82, tn82, ta83, tn83, ta84, tn84, ta85, tn85, xLoad_i, xLoad_l, xLoad_r, xInc_s, xBr_t, xBr_f, xNz_s, xGf_s, xPf_s, xPz_s, xLd_2, xLd_7, xLd_10, xLdb_3, xLdb_5, xLdb_9, xLdl_4, xLdr_6, xSt_2, xStl_4, xStb_3, xStb_5, xLen_s, xLen_10, xCpy_s, xIv_s, xMx_s, mCont_s, mCont_n, w32_s, w64_s, upC_e, upC_n, upC_u, upC_c, mEn_c, mEn_n, mcw_i, mcw_l, mcw_r, mcat_n, mcat_i, mcat_l, mcat_r, xlong_i, xlong_l, xlong_r, xlong_n, s1_at, s2_at, ↓reduceIte, reduceCtorEq, and_self, true_and, and_true, false_and, and_false, Bool.false_eq_true, ne_eq, not_true_eq_false, not_false_eq_true, or_true, true_or, or_false, false_or, or_self, Int.tmod_eq_emod_of_nonneg, Int.tdiv_eq_ediv_of_nonneg, Classical.not_not, xSw, rOK, b2i_ok, b2i_0, b2i_1, Nat.reduceAdd, Nat.reduceSub, Nat.reduceMul, Nat.reduceEqDiff, Nat.reduceLeDiff, Nat.reduceLT, Int.reduceAdd, Int.reduceSub, Int.reduceMul, Int.reduceNeg, Int.reduceEq, Int.reduceNe, Int.reduceLT, Int.reduceLE, Int.reduceToNat, Int.reduceTDiv, Int.reduceTMod, b2i_em, w1]
    exact hr
/-! listen: how many are alike -/
def alk (N T : Nat → Int) (v : Int) : Nat → Int
  | 0 => 0
  | k + 1 => if N k = v then alk N T v k + T k else alk N T v k
theorem alk_s {N T : Nat → Int} {v : Int} {k : Nat} : alk N T v (k + 1) = if N k = v then alk N T v k + T k else alk N T v k := rfl
def mxA (f : Nat → Int) : Nat → Int
  | 0 => 0
  | k + 1 => max (mxA f k) (f k)
theorem mxA_s {f : Nat → Int} {k : Nat} : mxA f (k + 1) = max (mxA f k) (f k) := rfl
theorem mxA_0 {f : Nat → Int} : ∀ n, 0 ≤ mxA f n
  | 0 => Int.le_refl _
  | n + 1 => by have := mxA_0 (f := f) n; rw [mxA_s]; omega
theorem mxA_ge {f : Nat → Int} {k : Nat} : ∀ n, k < n → f k ≤ mxA f n
  | 0, h => by omega
  | n + 1, h => by
    rw [mxA_s]
    by_cases e : k = n
    · subst e; omega
    · have := mxA_ge (f := f) (k := k) n (by omega); omega
theorem mxA_le {f : Nat → Int} {z : Int} (hz : 0 ≤ z) : ∀ n, (∀ k, k < n → f k ≤ z) → mxA f n ≤ z
  | 0, _ => hz
  | n + 1, h => by
    rw [mxA_s]
    have := mxA_le hz n (fun k hk => h k (by omega))
    have := h n (by omega)
    omega
theorem mxA_c {f g : Nat → Int} : ∀ n, (∀ k, k < n → f k = g k) → mxA f n = mxA g n
  | 0, _ => rfl
  | n + 1, h => by rw [mxA_s, mxA_s, mxA_c n (fun k hk => h k (by omega)), h n (by omega)]
theorem alk_R {N T : Nat → Int} {v z : Int} : ∀ n : Nat, (∀ k, k < n → 0 ≤ T k ∧ T k ≤ z) → 0 ≤ alk N T v n ∧ alk N T v n ≤ n * z
  | 0, _ => by unfold alk; omega
  | n + 1, h => by
    have ih := alk_R (N := N) (v := v) n (fun k hk => h k (by omega))
    have q := h n (by omega)
    have e : ((n + 1 : Nat) : Int) * z = n * z + z := by rw [show ((n + 1 : Nat) : Int) = (n : Int) + 1 by omega, Int.add_mul, Int.one_mul]
    rw [alk_s, e]
    split <;> omega
theorem alk_add {N T : Nat → Int} {v : Int} {a : Nat} : ∀ n : Nat, alk N (fun k => T k + if k = a then 1 else 0) v n = alk N T v n + if a < n ∧ N a = v then 1 else 0
  | 0 => by rw [if_neg (by omega)]; rfl
  | n + 1 => by
    rw [alk_s, alk_s, alk_add n]
    by_cases c : N n = v
    · rw [if_pos c, if_pos c]
      by_cases e : n = a
      · subst e
        rw [if_pos rfl, if_neg (by omega), if_pos ⟨by omega, c⟩]
        omega
      · rw [if_neg e]
        by_cases g : a < n ∧ N a = v
        · rw [if_pos g, if_pos ⟨by omega, g.2⟩]; omega
        · rw [if_neg g, if_neg (fun q => g ⟨by omega, q.2⟩)]; omega
    · rw [if_neg c, if_neg c]
      by_cases g : a < n ∧ N a = v
      · rw [if_pos g, if_pos ⟨by omega, g.2⟩]
      · rw [if_neg g, if_neg (fun q => g ⟨by
          rcases Nat.lt_or_ge a n with e | e
          · exact e
          · have : a = n := by omega
            exact absurd (this ▸ q.2) c, q.2⟩)]
theorem alk_c {N T U : Nat → Int} {v : Int} : ∀ n : Nat, (∀ k, k < n → T k = U k) → alk N T v n = alk N U v n
  | 0, _ => rfl
  | n + 1, h => by rw [alk_s, alk_s, alk_c n (fun k hk => h k (by omega)), h n (by omega)]
/-- of a bridge: in how many worlds this note -/
noncomputable def gA (ru : RU) (A : Int → Int) (L : List Nat) (n b : Nat) (v : Nat) (x : Nat) : Int := if gW ru A L n x = 1 ∧ ntW ru A L n (wd (cW A) n x) b = v then 1 else 0
theorem gA_1 {ru : RU} {A : Int → Int} {L : List Nat} {n b v x : Nat} : gA ru A L n b v x = 1 ↔ gW ru A L n x = 1 ∧ ntW ru A L n (wd (cW A) n x) b = v := by
  unfold gA
  by_cases c : gW ru A L n x = 1 ∧ ntW ru A L n (wd (cW A) n x) b = v
  · rw [if_pos c]; exact ⟨fun _ => c, fun _ => rfl⟩
  · rw [if_neg c]; exact ⟨fun h => absurd h (by decide), fun h => absurd h c⟩
theorem alk_gA {ru : RU} {A : Int → Int} {L : List Nat} {n b v : Nat} (hn : n ≤ 5) : ∀ X : Nat, alk (fun s => sNo ru A L n b s) (fun s => (cn (gT ru A L n b s) X : Int)) v (2 ^ n) = cn (gA ru A L n b v) X
  | 0 => by
    have : ∀ m, alk (fun s => sNo ru A L n b s) (fun s => (cn (gT ru A L n b s) 0 : Int)) v m = 0 := fun m => by
      induction m with
      | zero => rfl
      | succ m ih =>
        rw [alk_s, ih]
        have : ((cn (gT ru A L n b (m : Int)) 0 : Nat) : Int) = 0 := rfl
        split <;> omega
    rw [this]
    rfl
  | X + 1 => by
    have ih := alk_gA (ru := ru) (A := A) (L := L) (b := b) (v := v) hn X
    have e1 := cn_s (G := gA ru A L n b v) (n := X)
    obtain ⟨p1, p2⟩ := p2N n (by omega)
    by_cases c : gW ru A L n X = 1
    · have hl := lwS_lt (wh := wd (cW A) n X) (b := b) n
      have hT : ∀ s, s < 2 ^ n → (fun s : Nat => (cn (gT ru A L n b s) (X + 1) : Int)) s = (fun s : Nat => (cn (gT ru A L n b s) X : Int) + if s = (lwS (wd (cW A) n X) b n).toNat then 1 else 0) s := fun s hs => by
        dsimp only
        have e2 := cn_s (G := gT ru A L n b s) (n := X)
        by_cases g : s = (lwS (wd (cW A) n X) b n).toNat
        · rw [if_pos (gT_1.mpr ⟨c, by omega⟩)] at e2
          rw [e2, if_pos g]; rfl
        · rw [if_neg (fun q => g (by have := (gT_1.mp q).2; omega))] at e2
          rw [e2, if_neg g]; omega
      rw [alk_c _ hT, alk_add, ih, e1]
      have hsn := sNo_lw (ru := ru) (A := A) (w := wd (cW A) n X) (L := L) (b := b) (n := n) (by omega)
      have e3 : (((lwS (wd (cW A) n X) b n).toNat : Nat) : Int) = lwS (wd (cW A) n X) b n := by omega
      by_cases g : ntW ru A L n (wd (cW A) n X) b = v
      · rw [if_pos (gA_1.mpr ⟨c, g⟩), if_pos ⟨by omega, by rw [e3, hsn, g]⟩]
        rfl
      · rw [if_neg (fun q => g (gA_1.mp q).2), if_neg (fun q => g (by have := q.2; rw [e3, hsn] at this; exact this))]
        omega
    · have hT : ∀ s, s < 2 ^ n → (fun s : Nat => (cn (gT ru A L n b s) (X + 1) : Int)) s = (fun s : Nat => (cn (gT ru A L n b s) X : Int)) s := fun s hs => by
        dsimp only
        have e2 := cn_s (G := gT ru A L n b s) (n := X)
        rw [if_neg (fun q => c (gT_1.mp q).1)] at e2
        rw [e2]
      rw [alk_c _ hT, ih, e1, if_neg (fun q => c (gA_1.mp q).1)]
theorem mx_same {ru : RU} {A : Int → Int} {L : List Nat} {n b : Nat} (hn : n ≤ 5) (X : Nat) : mxA (fun s => alk (fun s => sNo ru A L n b s) (fun s => (cn (gT ru A L n b s) X : Int)) (sNo ru A L n b s) (2 ^ n)) (2 ^ n) = mxA (fun k => (cn (gA ru A L n b k) X : Int)) 1000 := by
  obtain ⟨p1, p2⟩ := p2N n (by omega)
  apply Int.le_antisymm
  · refine mxA_le (mxA_0 _) _ (fun s hs => ?_)
    have hR := ntq_R (ru := ru) (A := A) (b := b) (s := A (83 + b)) (ld := wS (brn A b) (wL A L) s n) (cn := mny A b + pc s n)
    have e : sNo ru A L n b s = (((sNo ru A L n b s).toNat : Nat) : Int) := by unfold sNo; omega
    have h2 : (sNo ru A L n b s).toNat < 1000 := by unfold sNo; omega
    have h3 := alk_gA (ru := ru) (A := A) (L := L) (b := b) (v := (sNo ru A L n b s).toNat) hn X
    rw [← e] at h3
    rw [h3]
    exact mxA_ge (f := fun k => (cn (gA ru A L n b k) X : Int)) 1000 h2
  · refine mxA_le (mxA_0 _) _ (fun k hk => ?_)
    by_cases c : cn (gA ru A L n b k) X = 0
    · rw [c]; exact mxA_0 _
    · obtain ⟨x, h1, h2, -⟩ := cn_ex (G := gA ru A L n b k) (i := 0) (n := X) (by omega)
      obtain ⟨g1, g2⟩ := gA_1.mp h2
      have hl := lwS_lt (wh := wd (cW A) n x) (b := b) n
      have hsn := sNo_lw (ru := ru) (A := A) (w := wd (cW A) n x) (L := L) (b := b) (n := n) (by omega)
      have e3 : (((lwS (wd (cW A) n x) b n).toNat : Nat) : Int) = lwS (wd (cW A) n x) b n := by omega
      have h4 := mxA_ge (f := fun s => alk (fun s => sNo ru A L n b s) (fun s => (cn (gT ru A L n b s) X : Int)) (sNo ru A L n b s) (2 ^ n)) (k := (lwS (wd (cW A) n x) b n).toNat) (2 ^ n) (by omega)
      rw [e3, hsn, g2, alk_gA hn X] at h4
      exact h4
/-- the least, the lowest of like ones -/
def bsP (f : Nat → Int) : Nat → Int × Int
  | 0 => (-1, 0)
  | b + 1 => if (bsP f b).1 = -1 ∨ f b < (bsP f b).2 then (((b : Nat) : Int), f b) else bsP f b
theorem bsP_s {f : Nat → Int} {b : Nat} : bsP f (b + 1) = if (bsP f b).1 = -1 ∨ f b < (bsP f b).2 then (((b : Nat) : Int), f b) else bsP f b := rfl
theorem bsP_c {f g : Nat → Int} : ∀ n, (∀ k, k < n → f k = g k) → bsP f n = bsP g n
  | 0, _ => rfl
  | n + 1, h => by rw [bsP_s, bsP_s, bsP_c n (fun k hk => h k (by omega)), h n (by omega)]
