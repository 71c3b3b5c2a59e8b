/-! text: the reference reads -/
set_option maxHeartbeats 2000000 in
/-- all clauses: to the loop's end -/
theorem r_rdA {d n : Nat} {f : Int → Int} {K : mQ} {M0 : mM} {R : Int × Int × List CLZ} (hF : R.1 ≠ 0 → ∀ (M1 : mM) (lv1 : mL), fZ M0 M1 → M1 97 18 = R.1 → M1 97 19 = R.2.1 → lv1 0 = some (vr 97) → rn (d + 8) 203 K 74 lv1 [] M1) (hE : R.1 = 0 → ∀ (M1 : mM) (lv1 : mL) (Q : List (Int × Int)), fZ M0 M1 → RI M1 Q R.2.2.length → RDt M1 R.2.2 Q → Q.length ≤ 300 → M1 97 16 = 0 → M1 97 19 = -1 → lv1 0 = some (vr 97) → rn (d + 8) 203 K 74 lv1 [] M1) : ∀ (m : Nat) (T : List TOK) (D : List CLZ) (Q : List (Int × Int)) (M : mM) (lv : mL), PR n m T D R → TS f n T M → D.length ≤ 24 → RI M Q D.length → RDt M D Q → RC M f n → Q.length + T.length ≤ 300 → fZ M0 M → M 97 19 = -1 → lv 0 = some (vr 97) → rn (d + 8) 203 K 74 lv [] M
  | 0, T, D, Q, M, lv, hR, hS, hDl, hI, hD, hT, hQ, hf0, h19, g0 => hR.elim
  | m + 1, [], D, Q, M, lv, hR, hS, hDl, hI, hD, hT, hQ, hf0, h19, g0 => by
    replace hR : R = (0, -1, D) := hR
    have hr := hE (by rw [hR])
    rw [hR] at hr
    have h16 : M 97 16 = 0 := by
      have := hS.2.2 0
      unfold SO at this
      omega
    exact hr M lv Q hf0 hI hD (by rw [List.length_nil] at hQ; omega) h16 h19 g0
  | m + 1, t :: T, D, Q, M, lv, hR, hS, hDl, hI, hD, hT, hQ, hf0, h19, g0 => by
    rw [List.length_cons] at hQ
    replace hR : (9 < t.1 ∧ R = (1, (t.2.2 : Int), [])) ∨ (t.1 ≤ 3 ∧ hasW t.1 D ∧ R = (4, (t.2.2 : Int), [])) ∨ (t.1 ≤ 9 ∧ (t.1 ≤ 3 → ¬ hasW t.1 D) ∧ 24 ≤ D.length ∧ R = (6, (t.2.2 : Int), [])) ∨ (t.1 ≤ 3 ∧ ¬ hasW t.1 D ∧ D.length < 24 ∧ ∃ o, LR t.1 n T [(1, [])] [] true (decide (t.1 = 1)) o ∧ ((o.1 ≠ 0 ∧ R = (o.1, o.2.1, [])) ∨ (o.1 = 0 ∧ PR n m o.2.2.2 (D ++ [(t.1, 0, 0, o.2.2.1)]) R))) ∨ (4 ≤ t.1 ∧ t.1 ≤ 9 ∧ D.length < 24 ∧ ∃ o, DR t.1 n T 0 0 0 o ∧ ((o.1 ≠ 0 ∧ R = (o.1, o.2.1, [])) ∨ (o.1 = 0 ∧ PR n m o.2.2.2.2 (D ++ [(t.1, o.2.2.1, o.2.2.2.1, [])]) R))) := hR
    have h18 := hI.1
    have h27 := hI.2.2.2.2.1
    have k0 : 0 ≤ t.1 := (TS_f hS).2.2.1
    have h16 : ¬ M 97 16 = 0 := by
      obtain ⟨q, x1, x2, x3, x4, x5⟩ := hS
      unfold SO at x3
      have := x4.2.1
      omega
    have hcl : ∀ Kc : mQ, (∀ fa M', (9 < t.1 ∧ fa = 1 ∨ t.1 ≤ 3 ∧ hasW t.1 D ∧ fa = 4 ∨ t.1 ≤ 9 ∧ (t.1 ≤ 3 → ¬ hasW t.1 D) ∧ 24 ≤ D.length ∧ fa = 6) → fZ M M' → M' 97 18 = fa → M' 97 19 = t.2.2 → Kc none M') → (∀ M', (∀ lv1 : mL, lv1 0 = some (vr 97) → rn (d + 8) 203 K 74 lv1 [] M') → Kc none M') → mCall (d + 8) 202 [vr 97] M Kc := fun Kc h1 h2 => by
      refine r_clause (d := d) hI hD hDl (by omega) hT hS h1 (fun M' k3 hn c24 f1 hR1 hT1 hS1 e28 e19 ft e112 e113 => h2 M' (fun lv1 g1 => ?_)) (fun k4 k9 c24 => ?_)
      · obtain ⟨o, hLR, ho⟩ : ∃ o, LR t.1 n T [(1, [])] [] true (decide (t.1 = 1)) o ∧ ((o.1 ≠ 0 ∧ R = (o.1, o.2.1, [])) ∨ (o.1 = 0 ∧ PR n m o.2.2.2 (D ++ [(t.1, 0, 0, o.2.2.1)]) R)) := by
          rcases hR with ⟨g, -⟩ | ⟨-, g, -⟩ | ⟨-, -, g, -⟩ | ⟨-, -, -, g⟩ | ⟨g, -⟩
          · omega
          · exact absurd g hn
          · omega
          · exact g
          · omega
        refine r_rdL (d := d) (Q := Q) (c := D.length) (Mh := M') (o := o) ⟨k0, k3⟩ ⟨by omega, by omega⟩ (fun hne M1 lv1 f2 a18 a19 g2 => ?_) (fun he M1 lv1 f2 hT2 hI2 hS2 hl2 g2 => ?_) (T.length + 1) T [(1, [])] [] true (decide (t.1 = 1)) M' lv1 (by omega) hLR hS1 (ok0 (w := t.1)).1 (ok0 (w := t.1)).2.1 (ok0 (w := t.1)).2.2 hR1 hT1 e28 ?_ ⟨fun _ _ _ _ _ _ _ _ => rfl, fun _ _ => rfl⟩ g1
        · rcases ho with ⟨-, g⟩ | ⟨g, -⟩
          · exact hF (by rw [g]; exact hne) M1 lv1 (fZ_t hf0 (fZ_t f1 f2)) (by rw [g]; exact a18) (by rw [g]; exact a19) g2
          · exact absurd g hne
        · rcases ho with ⟨g, -⟩ | ⟨-, g⟩
          · exact absurd he g
          · have hz : ∀ k, 112 ≤ k → k ≤ 115 → M1 k = M' k := fun k a b => f2.1 k (by omega) (by omega) (by omega) (by omega) (by omega) (by omega) (by omega)
            have ft2 : fTb D.length M M1 := fun i hi => by
              rw [hz 112 (by decide) (by decide), hz 113 (by decide) (by decide), hz 114 (by decide) (by decide), hz 115 (by decide) (by decide)]
              exact ft i hi
            refine r_rdA hF hE m o.2.2.2 (D ++ [(t.1, 0, 0, o.2.2.1)]) ((Q ++ o.2.2.1) ++ [(408, 0)]) M1 lv1 g hS2 (by rw [List.length_append, List.length_singleton]; omega) ?_ ?_ hT2 ?_ (fZ_t hf0 (fZ_t f1 (fZ_C f2))) ?_ g2
            · rw [List.length_append, List.length_singleton]
              exact hI2
            · refine RDt_s ?_ ⟨?_, fun e => ?_, fun _ => ⟨Q, [], ?_, ?_⟩⟩
              · rw [List.append_assoc]
                exact RDt_c hD ft2
              · rw [hz 112 (by decide) (by decide)]
                exact e112
              · exfalso
                replace e : 4 ≤ t.1 := e
                omega
              · rw [List.append_assoc]
              · rw [hz 113 (by decide) (by decide)]
                exact e113
            · rw [List.length_append, List.length_singleton]; omega
            · rw [f2.2 19 (by decide), e19]
              exact h19
        · show (Q ++ []).length + (fl [(1, [])]).length + T.length ≤ 300
          rw [List.append_nil]
          show Q.length + 0 + T.length ≤ 300
          omega
      · obtain ⟨o, hLR, ho⟩ : ∃ o, DR t.1 n T 0 0 0 o ∧ ((o.1 ≠ 0 ∧ R = (o.1, o.2.1, [])) ∨ (o.1 = 0 ∧ PR n m o.2.2.2.2 (D ++ [(t.1, o.2.2.1, o.2.2.2.1, [])]) R)) := by
          rcases hR with ⟨g, -⟩ | ⟨g, -⟩ | ⟨-, -, g, -⟩ | ⟨g, -⟩ | ⟨-, -, -, g⟩
          · omega
          · omega
          · omega
          · omega
          · exact g
        refine ⟨o, hLR, fun hne M1 f2 a18 a19 => h2 M1 (fun lv1 g1 => ?_), fun he M1 f2 hI2 hT2 hS2 hl2 e19 ft e112 e114 e115 => h2 M1 (fun lv1 g1 => ?_)⟩
        · rcases ho with ⟨-, g⟩ | ⟨g, -⟩
          · exact hF (by rw [g]; exact hne) M1 lv1 (fZ_t hf0 f2) (by rw [g]; exact a18) (by rw [g]; exact a19) g1
          · exact absurd g hne
        · rcases ho with ⟨g, -⟩ | ⟨-, g⟩
          · exact absurd he g
          · refine r_rdA hF hE m o.2.2.2.2 (D ++ [(t.1, o.2.2.1, o.2.2.2.1, [])]) (Q ++ [(408, 0)]) M1 lv1 g hS2 (by rw [List.length_append, List.length_singleton]; omega) ?_ ?_ hT2 ?_ (fZ_t hf0 f2) ?_ g1
            · rw [List.length_append, List.length_singleton]
              exact hI2
            · refine RDt_s (RDt_c hD ft) ⟨e112, fun _ => ⟨e114, e115⟩, fun e => ?_⟩
              exfalso
              replace e : t.1 ≤ 3 := e
              omega
            · rw [List.length_append, List.length_singleton]; omega
            · rw [e19]
              exact h19
    rw [w203_74]
    simp (disch := first | decide | omega) only [b203, w203_0, w203_1, w203_4, w203_5, w203_6, w203_7, w203_10, w203_11, w203_12, w203_13, w203_14, w203_17, w203_20, w203_21, w203_22, w203_25, w203_26, w203_27, w203_30, w203_31, w203_32, w203_35, w203_36, w203_37, w203_40, w203_41, w203_42, w203_45, w203_46, w203_47, w203_50, w203_51, w203_52, w203_55, w203_56, w203_57, w203_60, w203_61, w203_62, w203_65, w203_66, w203_67, w203_70, w203_71, w203_75, w203_78, w203_81, w203_82, w203_85, w203_86, w203_89, w203_90, w203_93, w203_96, w203_97, w203_100, w203_132, w203_133, w203_136, w203_139, w203_140, w203_143, w203_146, w203_147, w203_150, w203_153, w203_154, w203_157, w203_160, w203_161, w203_164, w203_167, w203_168, w203_169, w203_172, w203_175, w203_176, w203_177, w203_180, w203_183, w203_184, w203_187, w203_190, w203_191, w203_192, w203_193, w203_196, w203_197, w203_198, w203_199, w203_200, w203_203, w203_204, w203_205, w203_208, w203_209, w203_210, w203_211, w203_212, w203_213, w203_216, w203_219, w203_220, w203_223, w203_225, w203_226, w203_227, w203_228, w203_229, w203_230, w203_233, w203_234, w203_235, w203_236, w203_237, w203_240, w203_242, w203_243, w203_244, w203_245, w203_246, w203_249, w203_250, w203_251, w203_252, w203_255, w203_256, w203_257, w203_258, w203_259, w203_260, w203_263, w203_265, w203_266, w203_267, w203_268, w203_269, w203_270, w203_273, w203_274, w203_275, w203_276, w203_277, w203_280, w203_282, w203_283, w203_284, w203_285, w203_286, w203_287, w203_290, w203_291, w203_292, w203_293, w203_296, w203_299, w203_300, w203_301, w203_302, w203_303, w203_306, w203_309, w203_310, w203_313, w203_316, w203_317, w203_318, w203_319, w203_320, w203_321, w203_324, w203_325, w203_326, w203_327, w203_328, w203_331, w203_334, w203_335, w203_336, w203_337, w203_338, w203_339, w203_342, w203_343, w203_344, w203_345, w203_348, w203_351, w203_352, w203_355, w203_356, w203_357, w203_358, w203_359, w203_360, w203_361, w203_362, tc97, tr97_0, tr97_1, tr97_2, tr97_6, tr97_7, tr97_8, tr97_9, tr97_10, tr97_11, tr97_12, tr97_22, tr97_23, tr97_25, tr97_26, tr97_30, tr97_31, tr97_32, tr97_33, tr97_35, tr97_36, tr97_37, tr97_38, tr97_40, tr97_41, tr97_42, tr97_43, tr97_44, tr97_45, tr97_46, tr97_47, tr97_48, tr97_49, tr97_50, tr97_51, tr97_52, tr97_53, tr97_54, tr97_55, tr97_56, tr97_57, tr97_58, tr97_59, tr97_60, tr97_61, ta98, tn98, ta99, tn99, ta100, tn100, ta101, tn101, ta102, tn102, ta103, tn103, ta104, tn104, ta105, tn105, ta106, tn106, ta107, tn107, ta108, tn108, ta109, tn109, ta110, tn110, ta111, tn111, ta112, tn112, ta113, tn113, ta114, tn114, ta115, tn115, ta116, tn116, ta117, tn117, ta118, tn118, ta119, tn119, ta120, tn120, ta121, tn121, ta122, tn122, ta123, tn123, ta124, tn124, ta125, tn125, ta126, tn126, ta127, tn127, ta128, tn128, ta129, tn129, ta130, tn130, ta131, tn131, ta132, tn132, ta133, tn133, ta134, tn134, ta135, tn135, ta136, tn136, ta137, tn137, ta138, tn138, ta139, tn139, ta140, tn140, ta141, tn141, xLoad_i, xLoad_l, xLoad_r, xInc_s, xBr_t, xBr_f, xNz_s, xGf_s, xPf_s, xPz_s, xLd_2, xLd_7, xLd_10, xLdb_3, xLdb_5, xLdb_9, xLdl_4, xLdr_6, xSt_2, xStl_4, xStb_3, xStb_5, xLen_s, xLen_10, xCpy_s, xIv_s, xMx_s, mCont_s, mCont_n, w32_s, w64_s, upC_e, upC_n, upC_u, upC_c, mEn_c, mEn_n, mcw_i, mcw_l, mcw_r, mcat_n, mcat_i, mcat_l, mcat_r, xlong_i, xlong_l, xlong_r, xlong_n, s1_at, s2_at, ↓reduceIte, reduceCtorEq, and_self, true_and, and_true, false_and, and_false, Bool.false_eq_true, ne_eq, not_true_eq_false, not_false_eq_true, or_true, true_or, or_false, false_or, or_self, Int.tmod_eq_emod_of_nonneg, Int.tdiv_eq_ediv_of_nonneg, Classical.not_not, xSw, rOK, b2i_ok, b2i_0, b2i_1, Nat.reduceAdd, Nat.reduceSub, Nat.reduceMul, Nat.reduceEqDiff, Nat.reduceLeDiff, Nat.reduceLT, Int.reduceAdd, Int.reduceSub, Int.reduceMul, Int.reduceNeg, Int.reduceEq, Int.reduceNe, Int.reduceLT, Int.reduceLE, Int.reduceToNat, Int.reduceTDiv, Int.reduceTMod, b2i_em, swT, List.getD_cons_zero, List.getD_cons_succ, List.getD_nil, g0, h18, h27, h16]
    refine hcl _ (fun fa M1 s f1 a18 a19 => ?_) (fun M1 hr => ?_)
    · have ho : fa ≠ 0 ∧ R = (fa, (t.2.2 : Int), []) := by
        rcases s with ⟨s1, rfl⟩ | ⟨s1, s2, rfl⟩ | ⟨s1, s2, s3, rfl⟩
        · rcases hR with ⟨-, g⟩ | ⟨g, -⟩ | ⟨g, -⟩ | ⟨g, -⟩ | ⟨-, g, -⟩
          · exact ⟨by decide, g⟩
          · omega
          · omega
          · omega
          · omega
        · rcases hR with ⟨g, -⟩ | ⟨-, -, g⟩ | ⟨-, g, -⟩ | ⟨-, g, -⟩ | ⟨g, -⟩
          · omega
          · exact ⟨by decide, g⟩
          · exact absurd s2 (g s1)
          · exact absurd s2 g
          · omega
        · rcases hR with ⟨g, -⟩ | ⟨g1, g2, -⟩ | ⟨-, -, -, g⟩ | ⟨-, -, g, -⟩ | ⟨-, -, g, -⟩
          · omega
          · exact absurd g2 (s2 g1)
          · exact ⟨by decide, g⟩
          · omega
          · omega
      obtain ⟨n0, ho⟩ := ho
      have hr := fun lv1 g => hF (by rw [ho]; exact n0) M1 lv1 (fZ_t hf0 f1) (by rw [ho]; exact a18) (by rw [ho]; exact a19) g
      clear hF hE hcl hR
      simp (disch := first | decide | omega) only [b203, w203_0, w203_1, w203_4, w203_5, w203_6, w203_7, w203_10, w203_11, w203_12, w203_13, w203_14, w203_17, w203_20, w203_21, w203_22, w203_25, w203_26, w203_27, w203_30, w203_31, w203_32, w203_35, w203_36, w203_37, w203_40, w203_41, w203_42, w203_45, w203_46, w203_47, w203_50, w203_51, w203_52, w203_55, w203_56, w203_57, w203_60, w203_61, w203_62, w203_65, w203_66, w203_67, w203_70, w203_71, w203_75, w203_78, w203_81, w203_82, w203_85, w203_86, w203_89, w203_90, w203_93, w203_96, w203_97, w203_100, w203_132, w203_133, w203_136, w203_139, w203_140, w203_143, w203_146, w203_147, w203_150, w203_153, w203_154, w203_157, w203_160, w203_161, w203_164, w203_167, w203_168, w203_169, w203_172, w203_175, w203_176, w203_177, w203_180, w203_183, w203_184, w203_187, w203_190, w203_191, w203_192, w203_193, w203_196, w203_197, w203_198, w203_199, w203_200, w203_203, w203_204, w203_205, w203_208, w203_209, w203_210, w203_211, w203_212, w203_213, w203_216, w203_219, w203_220, w203_223, w203_225, w203_226, w203_227, w203_228, w203_229, w203_230, w203_233, w203_234, w203_235, w203_236, w203_237, w203_240, w203_242, w203_243, w203_244, w203_245, w203_246, w203_249, w203_250, w203_251, w203_252, w203_255, w203_256, w203_257, w203_258, w203_259, w203_260, w203_263, w203_265, w203_266, w203_267, w203_268, w203_269, w203_270, w203_273, w203_274, w203_275, w203_276, w203_277, w203_280, w203_282, w203_283, w203_284, w203_285, w203_286, w203_287, w203_290, w203_291, w203_292, w203_293, w203_296, w203_299, w203_300, w203_301, w203_302, w203_303, w203_306, w203_309, w203_310, w203_313, w203_316, w203_317, w203_318, w203_319, w203_320, w203_321, w203_324, w203_325, w203_326, w203_327, w203_328, w203_331, w203_334, w203_335, w203_336, w203_337, w203_338, w203_339, w203_342, w203_343, w203_344, w203_345, w203_348, w203_351, w203_352, w203_355, w203_356, w203_357, w203_358, w203_359, w203_360, w203_361, w203_362, tc97, tr97_0, tr97_1, tr97_2, tr97_6, tr97_7, tr97_8, tr97_9, tr97_10, tr97_11, tr97_12, tr97_22, tr97_23, tr97_25, tr97_26, tr97_30, tr97_31, tr97_32, tr97_33, tr97_35, tr97_36, tr97_37, tr97_38, tr97_40, tr97_41, tr97_42, tr97_43, tr97_44, tr97_45, tr97_46, tr97_47, tr97_48, tr97_49, tr97_50, tr97_51, tr97_52, tr97_53, tr97_54, tr97_55, tr97_56, tr97_57, tr97_58, tr97_59, tr97_60, tr97_61, ta98, tn98, ta99, tn99, ta100, tn100, ta101, tn101, ta102, tn102, ta103, tn103, ta104, tn104, ta105, tn105, ta106, tn106, ta107, tn107, ta108, tn108, ta109, tn109, ta110, tn110, ta111, tn111, ta112, tn112, ta113, tn113, ta114, tn114, ta115, tn115, ta116, tn116, ta117, tn117, ta118, tn118, ta119, tn119, ta120, tn120, ta121, tn121, ta122, tn122, ta123, tn123, ta124, tn124, ta125, tn125, ta126, tn126, ta127, tn127, ta128, tn128, ta129, tn129, ta130, tn130, ta131, tn131, ta132, tn132, ta133, tn133, ta134, tn134, ta135, tn135, ta136, tn136, ta137, tn137, ta138, tn138, ta139, tn139, ta140, tn140, ta141, tn141, xLoad_i, xLoad_l, xLoad_r, xInc_s, xBr_t, xBr_f, xNz_s, xGf_s, xPf_s, xPz_s, xLd_2, xLd_7, xLd_10, xLdb_3, xLdb_5, xLdb_9, xLdl_4, xLdr_6, xSt_2, xStl_4, xStb_3, xStb_5, xLen_s, xLen_10, xCpy_s, xIv_s, xMx_s, mCont_s, mCont_n, w32_s, w64_s, upC_e, upC_n, upC_u, upC_c, mEn_c, mEn_n, mcw_i, mcw_l, mcw_r, mcat_n, mcat_i, mcat_l, mcat_r, xlong_i, xlong_l, xlong_r, xlong_n, s1_at, s2_at, ↓reduceIte, reduceCtorEq, and_self, true_and, and_true, false_and, and_false, Bool.false_eq_true, ne_eq, not_true_eq_false, not_false_eq_true, or_true, true_or, or_false, false_or, or_self, Int.tmod_eq_emod_of_nonneg, Int.tdiv_eq_ediv_of_nonneg, Classical.not_not, xSw, rOK, b2i_ok, b2i_0, b2i_1, Nat.reduceAdd, Nat.reduceSub, Nat.reduceMul, Nat.reduceEqDiff, Nat.reduceLeDiff, Nat.reduceLT, Int.reduceAdd, Int.reduceSub, Int.reduceMul, Int.reduceNeg, Int.reduceEq, Int.reduceNe, Int.reduceLT, Int.reduceLE, Int.reduceToNat, Int.reduceTDiv, Int.reduceTMod, b2i_em]
      exact hr _ (by simp [s1_at, s2_at, mEn_c, mcw_r, mcw_i, mcw_l, xlong_i, xlong_r, xlong_l, xlong_n, g0])
    · clear hF hE hcl hR
      simp (disch := first | decide | omega) only [b203, w203_0, w203_1, w203_4, w203_5, w203_6, w203_7, w203_10, w203_11, w203_12, w203_13, w203_14, w203_17, w203_20, w203_21, w203_22, w203_25, w203_26, w203_27, w203_30, w203_31, w203_32, w203_35, w203_36, w203_37, w203_40, w203_41, w203_42, w203_45, w203_46, w203_47, w203_50, w203_51, w203_52, w203_55, w203_56, w203_57, w203_60, w203_61, w203_62, w203_65, w203_66, w203_67, w203_70, w203_71, w203_75, w203_78, w203_81, w203_82, w203_85, w203_86, w203_89, w203_90, w203_93, w203_96, w203_97, w203_100, w203_132, w203_133, w203_136, w203_139, w203_140, w203_143, w203_146, w203_147, w203_150, w203_153, w203_154, w203_157, w203_160, w203_161, w203_164, w203_167, w203_168, w203_169, w203_172, w203_175, w203_176, w203_177, w203_180, w203_183, w203_184, w203_187, w203_190, w203_191, w203_192, w203_193, w203_196, w203_197, w203_198, w203_199, w203_200, w203_203, w203_204, w203_205, w203_208, w203_209, w203_210, w203_211, w203_212, w203_213, w203_216, w203_219, w203_220, w203_223, w203_225, w203_226, w203_227, w203_228, w203_229, w203_230, w203_233, w203_234, w203_235, w203_236, w203_237, w203_240, w203_242, w203_243, w203_244, w203_245, w203_246, w203_249, w203_250, w203_251, w203_252, w203_255, w203_256, w203_257, w203_258, w203_259, w203_260, w203_263, w203_265, w203_266, w203_267, w203_268, w203_269, w203_270, w203_273, w203_274, w203_275, w203_276, w203_277, w203_280, w203_282, w203_283, w203_284, w203_285, w203_286, w203_287, w203_290, w203_291, w203_292, w203_293, w203_296, w203_299, w203_300, w203_301, w203_302, w203_303, w203_306, w203_309, w203_310, w203_313, w203_316, w203_317, w203_318, w203_319, w203_320, w203_321, w203_324, w203_325, w203_326, w203_327, w203_328, w203_331, w203_334, w203_335, w203_336, w203_337, w203_338, w203_339, w203_342, w203_343, w203_344, w203_345, w203_348, w203_351, w203_352, w203_355, w203_356, w203_357, w203_358, w203_359, w203_360, w203_361, w203_362, tc97, tr97_0, tr97_1, tr97_2, tr97_6, tr97_7, tr97_8, tr97_9, tr97_10, tr97_11, tr97_12, tr97_22, tr97_23, tr97_25, tr97_26, tr97_30, tr97_31, tr97_32, tr97_33, tr97_35, tr97_36, tr97_37, tr97_38, tr97_40, tr97_41, tr97_42, tr97_43, tr97_44, tr97_45, tr97_46, tr97_47, tr97_48, tr97_49, tr97_50, tr97_51, tr97_52, tr97_53, tr97_54, tr97_55, tr97_56, tr97_57, tr97_58, tr97_59, tr97_60, tr97_61, ta98, tn98, ta99, tn99, ta100, tn100, ta101, tn101, ta102, tn102, ta103, tn103, ta104, tn104, ta105, tn105, ta106, tn106, ta107, tn107, ta108, tn108, ta109, tn109, ta110, tn110, ta111, tn111, ta112, tn112, ta113, tn113, ta114, tn114, ta115, tn115, ta116, tn116, ta117, tn117, ta118, tn118, ta119, tn119, ta120, tn120, ta121, tn121, ta122, tn122, ta123, tn123, ta124, tn124, ta125, tn125, ta126, tn126, ta127, tn127, ta128, tn128, ta129, tn129, ta130, tn130, ta131, tn131, ta132, tn132, ta133, tn133, ta134, tn134, ta135, tn135, ta136, tn136, ta137, tn137, ta138, tn138, ta139, tn139, ta140, tn140, ta141, tn141, xLoad_i, xLoad_l, xLoad_r, xInc_s, xBr_t, xBr_f, xNz_s, xGf_s, xPf_s, xPz_s, xLd_2, xLd_7, xLd_10, xLdb_3, xLdb_5, xLdb_9, xLdl_4, xLdr_6, xSt_2, xStl_4, xStb_3, xStb_5, xLen_s, xLen_10, xCpy_s, xIv_s, xMx_s, mCont_s, mCont_n, w32_s, w64_s, upC_e, upC_n, upC_u, upC_c, mEn_c, mEn_n, mcw_i, mcw_l, mcw_r, mcat_n, mcat_i, mcat_l, mcat_r, xlong_i, xlong_l, xlong_r, xlong_n, s1_at, s2_at, ↓reduceIte, reduceCtorEq, and_self, true_and, and_true, false_and, and_false, Bool.false_eq_true, ne_eq, not_true_eq_false, not_false_eq_true, or_true, true_or, or_false, false_or, or_self, Int.tmod_eq_emod_of_nonneg, Int.tdiv_eq_ediv_of_nonneg, Classical.not_not, xSw, rOK, b2i_ok, b2i_0, b2i_1, Nat.reduceAdd, Nat.reduceSub, Nat.reduceMul, Nat.reduceEqDiff, Nat.reduceLeDiff, Nat.reduceLT, Int.reduceAdd, Int.reduceSub, Int.reduceMul, Int.reduceNeg, Int.reduceEq, Int.reduceNe, Int.reduceLT, Int.reduceLE, Int.reduceToNat, Int.reduceTDiv, Int.reduceTMod, b2i_em]
      exact hr _ (by simp [s1_at, s2_at, mEn_c, mcw_r, mcw_i, mcw_l, xlong_i, xlong_r, xlong_l, xlong_n, g0])
