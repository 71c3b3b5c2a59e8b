/-! text: both sides, joined -/
def lwD (D : List CLZ) : RU := fun w => (D.find? (fun c => decide (c.1 = w))).map (fun c => c.2.2.2)
theorem lwD_1 {D : List CLZ} {w : Int} (hu : w ≤ 3) (hD : okD D) {i : Nat} {c : CLZ} (hc : D[i]? = some c) (e : c.1 = w) : lwD D w = some c.2.2.2 := by
  unfold lwD
  cases hf : D.find? (fun c => decide (c.1 = w)) with
  | none =>
    have := List.find?_eq_none.mp hf c (List.mem_of_getElem? hc)
    rw [decide_eq_true e] at this
    exact absurd rfl this
  | some a =>
    have h1 := List.find?_some hf
    have h2 := List.mem_of_find?_eq_some hf
    obtain ⟨j, hj, e2⟩ := List.mem_iff_getElem.mp h2
    have hg : D[j]? = some a := by rw [List.getElem?_eq_getElem hj, e2]
    have h3 : a.1 = w := of_decide_eq_true h1
    have h4 := hD.2.2 w hu i j c a hc hg e h3
    subst h4
    rw [hc] at hg
    injection hg with h5
    rw [h5]
    rfl
theorem lwD_0 {D : List CLZ} {w : Int} (h : ¬ hasW w D) : lwD D w = none := by
  unfold lwD
  cases hf : D.find? (fun c => decide (c.1 = w)) with
  | none => rfl
  | some a =>
    have h1 := List.find?_some hf
    exact absurd ⟨a, List.mem_of_find?_eq_some hf, of_decide_eq_true h1⟩ h
theorem okD_nil : okD [] := ⟨by decide, fun c hc => (by cases hc), fun w _ i j a b ha _ _ _ => (by cases ha)⟩
theorem rcod_c2 {o v o2 v2 : Int → Int} : ∀ (L : List (Int × Int)) (i : Int), (∀ j, i ≤ j → j ≤ i + L.length → o2 j = o j ∧ v2 j = v j) → rcod o v i L → rcod o2 v2 i L
  | [], i, h, g => by
    show o2 i = 408
    rw [(h i (Int.le_refl _) (by rw [List.length_nil]; omega)).1]
    exact g
  | q :: L, i, h, g => by
    rw [List.length_cons] at h
    obtain ⟨a, b⟩ := h i (Int.le_refl _) (by omega)
    exact ⟨by rw [a]; exact g.1, fun e => by rw [b]; exact g.2.1 e, rcod_c2 L (i + 1) (fun j h1 h2 => h j (by omega) (by omega)) g.2.2⟩
theorem TXt_c2 {M M' : mM} {t : Nat} {lw : RU} (h : TXt M t lw) (e27 : ∀ k, 27 + 8 * t ≤ k → k ≤ 27 + 8 * t + 6 → M' k = M k) (e101 : M' 101 t = M 101 t) (e102 : ∀ j : Int, 24 * t ≤ j → j < 24 * t + 24 → M' 102 j = M 102 j ∧ M' 103 j = M 103 j ∧ M' 104 j = M 104 j ∧ M' 105 j = M 105 j) (e106 : ∀ j : Int, 0 ≤ j → j < 400 * t + 400 → M' 106 j = M 106 j ∧ M' 107 j = M 107 j) : TXt M' t lw := by
  obtain ⟨h1, h2, h3, h4⟩ := h
  have f1 := e27 (27 + 8 * t) (by omega) (by omega)
  have f2 := e27 (27 + 8 * t + 1) (by omega) (by omega)
  have f3 := e27 (27 + 8 * t + 2) (by omega) (by omega)
  have f4 := e27 (27 + 8 * t + 3) (by omega) (by omega)
  have f5 := e27 (27 + 8 * t + 4) (by omega) (by omega)
  have f6 := e27 (27 + 8 * t + 5) (by omega) (by omega)
  have f7 := e27 (27 + 8 * t + 6) (by omega) (by omega)
  unfold TXt
  rw [f1, f2, f3, f4, f5, f6, f7, e101]
  refine ⟨h1, h2, fun i hi => ?_, fun w w0 w3 => ?_⟩
  · obtain ⟨a, b, c, g⟩ := e102 (24 * t + i) (by omega) (by omega)
    rw [a, c, g]
    exact h3 i hi
  · rcases h4 w w0 w3 with ⟨q1, q2, q3⟩ | ⟨L, i, q1, q2, q3, q4, q5, q6, q7, q8⟩
    · refine Or.inl ⟨q1, q2, fun i hi => ?_⟩
      rw [(e102 (24 * t + i) (by omega) (by omega)).1]
      exact q3 i hi
    · obtain ⟨a, b, -, -⟩ := e102 (24 * t + i) (by omega) (by omega)
      refine Or.inr ⟨L, i, q1, q2, q3, by rw [a]; exact q4, fun j hj hj2 => ?_, ?_, by rw [b]; exact q7, by rw [b]; exact q8⟩
      · rw [(e102 (24 * t + j) (by omega) (by omega)).1] at hj2
        exact q5 j hj hj2
      · rw [b]
        exact rcod_c2 L _ (fun j h1 h2 => e106 j (by omega) (by omega)) q6
/-- a new text -/
theorem TXt_new {M : mM} {t : Nat} {D : List CLZ} {P Q : List (Int × Int)} (hD : okD D) (hPl : P.length ≤ 300) (hQl : Q.length ≤ 300) (c3 : CDt t M D) (cw : CDw t M D P) (cc : vAt (M (27 + 8 * t + 4)) 0 (P.map enc)) (r1 : M 101 t = D.length) (r2 : ∀ (i : Nat) (c : CLZ), D[i]? = some c → M 102 (24 * (t : Int) + i) = c.1 ∧ (4 ≤ c.1 → M 104 (24 * (t : Int) + i) = c.2.1 ∧ (dLk c.1 ≠ 41 → M 105 (24 * (t : Int) + i) = c.2.2.1)) ∧ (c.1 ≤ 3 → ∃ pre suf, Q = pre ++ (c.2.2.2 ++ ((408, 0) :: suf)) ∧ M 103 (24 * (t : Int) + i) = 400 * (t : Int) + pre.length)) (rn : nco (M 106) (M 107) (400 * (t : Int)) Q) : TXt M t (lwD D) := by
  have hDl := hD.1
  have hget : ∀ i : Nat, (i : Int) < D.length → ∃ c, D[i]? = some c ∧ okC c := fun i hi => by
    have hi' : i < D.length := by omega
    exact ⟨D[i], List.getElem?_eq_getElem hi', hD.2.1 _ (List.getElem_mem hi')⟩
  refine ⟨by rw [r1]; omega, by rw [r1]; exact c3.1, fun i hi => ?_, fun w w0 w3 => ?_⟩
  · rw [r1] at hi
    obtain ⟨c, hc, o1, o2, o3, o4⟩ := hget i hi
    obtain ⟨a1, a2, a3⟩ := c3.2 i c hc
    obtain ⟨b1, b2, b3⟩ := r2 i c hc
    rw [b1, a1, a2, a3]
    refine ⟨o1, o2, rfl, fun h4 => ?_⟩
    obtain ⟨b4, b5⟩ := b2 h4
    rw [b4]
    refine ⟨rfl, (o3 h4).1, (o3 h4).2, fun h5 => ?_⟩
    rw [b5 (by
      unfold dLk
      rcases h5 with h5 | h5 | h5 <;> rw [h5] <;> decide)]
  · rcases cw w w0 w3 with ⟨q1, q2⟩ | ⟨i, c, pre, suf, q1, q2, q3, q4, q5, q6⟩
    · refine Or.inl ⟨lwD_0 q1, q2, fun i hi e => ?_⟩
      rw [r1] at hi
      obtain ⟨c, hc, -⟩ := hget i hi
      exact q1 ⟨c, List.mem_of_getElem? hc, by rw [← (r2 i c hc).1, e]⟩
    · obtain ⟨hi, -⟩ := List.getElem?_eq_some_iff.mp q1
      obtain ⟨b1, b2, b3⟩ := r2 i c q1
      obtain ⟨pr, su, e1, e2⟩ := b3 (by omega)
      have hlp : pre.length + c.2.2.2.length ≤ P.length := by
        rw [q3, List.length_append, List.length_append]; omega
      have hlq : pr.length + c.2.2.2.length + 1 ≤ Q.length := by
        rw [e1, List.length_append, List.length_append, List.length_cons]; omega
      have hl : 0 < c.2.2.2.length := List.length_pos_iff.mpr q6
      have hokc := hD.2.1 c (List.mem_of_getElem? q1)
      have hwf := hokc.2.2.2 (by omega)
      rw [q2] at hwf
      refine Or.inr ⟨c.2.2.2, i, lwD_1 w3 hD q1 q2, ⟨by omega, by omega, ?_, by rw [q4, q5], by omega, hwf⟩, by rw [r1]; omega, by rw [b1, q2], fun j hj e => ?_, ?_, by omega, by omega⟩
      · rw [q3, List.map_append, List.map_append] at cc
        have h1 := ((vAt_app _ _ _).mp cc).2
        have h2 := ((vAt_app _ _ _).mp h1).1
        rw [List.length_map, Int.zero_add] at h2
        rw [q4]
        exact vAt_cod _ _ h2
      · rw [r1] at hj
        obtain ⟨c2, hc2, -⟩ := hget j hj
        exact hD.2.2 w w3 j i c2 c hc2 q1 (by rw [← (r2 j c2 hc2).1, e]) q2
      · rw [e1] at rn
        have h1 := ((nco_app _ _ _).mp rn).2
        rw [e2]
        exact nco_rc rfl _ _ h1
set_option maxHeartbeats 1000000 in
theorem J_text {S : Int → Int} {M M2 : mM} {lw lw2 : Nat → RU} {t : Nat} (h : J S M lw) (ht : t < 4) (e : ∀ k, k ≠ 2 → k ≠ 59 → k ≠ 61 → k ≠ 62 → (k < 27 + 8 * t ∨ 27 + 8 * t + 6 < k) → k ≠ 97 → k ≠ 98 → (k < 101 ∨ 117 < k) → M2 k = M k) (hCV : CV 2 M2 (M2 98)) (hle : M 98 2 ≤ M2 98 2) (hTX : ∀ u : Nat, (u : Int) < M2 98 2 → TXt M2 u (lw2 u)) (hTP : TP M2) : J S M2 lw2 := by
  obtain ⟨k1, k2, k3, k4, k5, k6, k7⟩ := h
  have e99 := e 99 (by decide) (by decide) (by decide) (by decide) (by omega) (by decide) (by decide) (by decide)
  refine ⟨hCV, by rw [e99]; exact CV_c k2 (fun k a b => e k (by omega) (by omega) (by omega) (by omega) (by omega) (by omega) (by omega) (by omega)), by rw [e99]; omega, hTX, hTP, by rw [e 63 (by decide) (by decide) (by decide) (by decide) (by omega) (by decide) (by decide) (by decide)]; exact k6, KS_c k7.1 (fun k a b => e k (by omega) (by omega) (by omega) (by omega) (by omega) (by omega) (by omega) (by omega)), fun i hi => by rw [e 77 (by decide) (by decide) (by decide) (by decide) (by omega) (by decide) (by decide) (by decide)]; exact k7.2 i hi⟩
set_option maxHeartbeats 2000000 in
theorem op_text : OPJ 130 203 [] := by
  intro S d M lw h K hK
  have hJ := h
  obtain ⟨k1, k2, k3, k4, k5, k6, k7⟩ := h
  obtain ⟨m1, m2, m3, m4, m5⟩ := J_m hJ
  have m17 : M 2 17 = M 98 2 := k1.2.2.2.2.2.2.2.2.1.1
  obtain ⟨t, htt⟩ := Int.eq_ofNat_of_zero_le m4
  replace htt : M 98 2 = (t : Int) := htt
  by_cases c4 : t = 4
  · have e4 : M 98 2 = 4 := by rw [htt, c4]; rfl
    rw [e4] at m17
    simp (disch := first | decide | omega) only [b130, w130_0, w130_1, w130_4, w130_7, w130_8, w130_11, w130_12, w130_13, w130_14, w130_17, w130_18, w130_21, w130_22, w130_25, w130_28, w130_29, w130_32, w130_33, w130_34, w130_37, w130_38, w130_41, w130_42, w130_45, w130_46, w130_47, w130_48, w130_51, w130_52, w130_55, w130_56, w130_57, w130_60, w130_61, w130_64, w130_67, w130_68, w130_69, tc1, tr1_0, tr1_1, tr1_2, tr1_3, tr1_4, tr1_5, tr1_6, tr1_7, tr1_8, tr1_9, tr1_10, tr1_11, tc2, tr2_2, tr2_3, tr2_4, tr2_5, tr2_6, tr2_7, tr2_8, tr2_9, tr2_12, tr2_13, tr2_15, ta3, tn3, ta4, tn4, ta5, tn5, ta6, tn6, ta7, tn7, ta8, tn8, ta9, tn9, ta10, tn10, ta11, tn11, ta12, tn12, ta13, tn13, xLoad_i, xLoad_l, xLoad_r, xInc_s, xBr_t, xBr_f, xNz_s, xGf_s, xPf_s, xPz_s, xLd_2, xLd_7, xLd_10, xLdb_3, xLdb_5, xLdb_9, xLdl_4, xLdr_6, xSt_2, xStl_4, xStb_3, xStb_5, xLen_s, xLen_10, xCpy_s, xIv_s, xMx_s, mCont_s, mCont_n, w32_s, w64_s, upC_e, upC_n, upC_u, upC_c, mEn_c, mEn_n, mcw_i, mcw_l, mcw_r, mcat_n, mcat_i, mcat_l, mcat_r, xlong_i, xlong_l, xlong_r, xlong_n, s1_at, s2_at, ↓reduceIte, reduceCtorEq, and_self, true_and, and_true, false_and, and_false, Bool.false_eq_true, ne_eq, not_true_eq_false, not_false_eq_true, or_true, true_or, or_false, false_or, or_self, Int.tmod_eq_emod_of_nonneg, Int.tdiv_eq_ediv_of_nonneg, Classical.not_not, xSw, rOK, b2i_ok, b2i_0, b2i_1, Nat.reduceAdd, Nat.reduceSub, Nat.reduceMul, Nat.reduceEqDiff, Nat.reduceLeDiff, Nat.reduceLT, Int.reduceAdd, Int.reduceSub, Int.reduceMul, Int.reduceNeg, Int.reduceEq, Int.reduceNe, Int.reduceLT, Int.reduceLE, Int.reduceToNat, Int.reduceTDiv, Int.reduceTMod, b2i_em, m17]
    refine hK _ _ (fun K2 hK2 => ?_)
    have hr := hK2 _ lw hJ
    simp (disch := first | decide | omega) only [b203, w203_0, w203_1, w203_4, w203_5, w203_6, w203_7, w203_10, w203_11, w203_12, w203_13, w203_14, w203_17, w203_20, w203_21, w203_22, w203_25, w203_26, w203_27, w203_30, w203_31, w203_32, w203_35, w203_36, w203_37, w203_40, w203_41, w203_42, w203_45, w203_46, w203_47, w203_50, w203_51, w203_52, w203_55, w203_56, w203_57, w203_60, w203_61, w203_62, w203_65, w203_66, w203_67, w203_70, w203_71, w203_75, w203_78, w203_81, w203_82, w203_85, w203_86, w203_89, w203_90, w203_93, w203_96, w203_97, w203_100, w203_132, w203_133, w203_136, w203_139, w203_140, w203_143, w203_146, w203_147, w203_150, w203_153, w203_154, w203_157, w203_160, w203_161, w203_164, w203_167, w203_168, w203_169, w203_172, w203_175, w203_176, w203_177, w203_180, w203_183, w203_184, w203_187, w203_190, w203_191, w203_192, w203_193, w203_196, w203_197, w203_198, w203_199, w203_200, w203_203, w203_204, w203_205, w203_208, w203_209, w203_210, w203_211, w203_212, w203_213, w203_216, w203_219, w203_220, w203_223, w203_225, w203_226, w203_227, w203_228, w203_229, w203_230, w203_233, w203_234, w203_235, w203_236, w203_237, w203_240, w203_242, w203_243, w203_244, w203_245, w203_246, w203_249, w203_250, w203_251, w203_252, w203_255, w203_256, w203_257, w203_258, w203_259, w203_260, w203_263, w203_265, w203_266, w203_267, w203_268, w203_269, w203_270, w203_273, w203_274, w203_275, w203_276, w203_277, w203_280, w203_282, w203_283, w203_284, w203_285, w203_286, w203_287, w203_290, w203_291, w203_292, w203_293, w203_296, w203_299, w203_300, w203_301, w203_302, w203_303, w203_306, w203_309, w203_310, w203_313, w203_316, w203_317, w203_318, w203_319, w203_320, w203_321, w203_324, w203_325, w203_326, w203_327, w203_328, w203_331, w203_334, w203_335, w203_336, w203_337, w203_338, w203_339, w203_342, w203_343, w203_344, w203_345, w203_348, w203_351, w203_352, w203_355, w203_356, w203_357, w203_358, w203_359, w203_360, w203_361, w203_362, tc97, tr97_0, tr97_1, tr97_2, tr97_6, tr97_7, tr97_8, tr97_9, tr97_10, tr97_11, tr97_12, tr97_22, tr97_23, tr97_25, tr97_26, tr97_30, tr97_31, tr97_32, tr97_33, tr97_35, tr97_36, tr97_37, tr97_38, tr97_40, tr97_41, tr97_42, tr97_43, tr97_44, tr97_45, tr97_46, tr97_47, tr97_48, tr97_49, tr97_50, tr97_51, tr97_52, tr97_53, tr97_54, tr97_55, tr97_56, tr97_57, tr97_58, tr97_59, tr97_60, tr97_61, ta98, tn98, ta99, tn99, ta100, tn100, ta101, tn101, ta102, tn102, ta103, tn103, ta104, tn104, ta105, tn105, ta106, tn106, ta107, tn107, ta108, tn108, ta109, tn109, ta110, tn110, ta111, tn111, ta112, tn112, ta113, tn113, ta114, tn114, ta115, tn115, ta116, tn116, ta117, tn117, ta118, tn118, ta119, tn119, ta120, tn120, ta121, tn121, ta122, tn122, ta123, tn123, ta124, tn124, ta125, tn125, ta126, tn126, ta127, tn127, ta128, tn128, ta129, tn129, ta130, tn130, ta131, tn131, ta132, tn132, ta133, tn133, ta134, tn134, ta135, tn135, ta136, tn136, ta137, tn137, ta138, tn138, ta139, tn139, ta140, tn140, ta141, tn141, ta98, tn98, xLoad_i, xLoad_l, xLoad_r, xInc_s, xBr_t, xBr_f, xNz_s, xGf_s, xPf_s, xPz_s, xLd_2, xLd_7, xLd_10, xLdb_3, xLdb_5, xLdb_9, xLdl_4, xLdr_6, xSt_2, xStl_4, xStb_3, xStb_5, xLen_s, xLen_10, xCpy_s, xIv_s, xMx_s, mCont_s, mCont_n, w32_s, w64_s, upC_e, upC_n, upC_u, upC_c, mEn_c, mEn_n, mcw_i, mcw_l, mcw_r, mcat_n, mcat_i, mcat_l, mcat_r, xlong_i, xlong_l, xlong_r, xlong_n, s1_at, s2_at, ↓reduceIte, reduceCtorEq, and_self, true_and, and_true, false_and, and_false, Bool.false_eq_true, ne_eq, not_true_eq_false, not_false_eq_true, or_true, true_or, or_false, false_or, or_self, Int.tmod_eq_emod_of_nonneg, Int.tdiv_eq_ediv_of_nonneg, Classical.not_not, xSw, rOK, b2i_ok, b2i_0, b2i_1, Nat.reduceAdd, Nat.reduceSub, Nat.reduceMul, Nat.reduceEqDiff, Nat.reduceLeDiff, Nat.reduceLT, Int.reduceAdd, Int.reduceSub, Int.reduceMul, Int.reduceNeg, Int.reduceEq, Int.reduceNe, Int.reduceLT, Int.reduceLE, Int.reduceToNat, Int.reduceTDiv, Int.reduceTMod, b2i_em, e4]
    exact hr
  · have ht : t < 4 := by omega
    obtain ⟨t1, t2, t3, t4, t5⟩ := k5
    obtain ⟨n, hn⟩ := Int.eq_ofNat_of_zero_le t2.1
    replace hn : M 59 1 = (n : Int) := hn
    obtain ⟨T, hTS, -⟩ := TKS_ex (f := M 60) (n := n) n 0 (by omega)
    obtain ⟨R, hP, hR0, hRD⟩ := PR_ex (n := n) (T.length + 1) T [] (by omega) (TKS_ok T 0 hTS).1 okD_nil
    have hTC : TC M (M 60) n := ⟨hn, by omega, rfl, fun i hi => (t3 i (by omega)).2⟩
    have hKK : KK M := fun k a b => k7.1.2 k a b
    have rf1 := rf26 t ht
    rw [htt] at m17
    have z151 : ¬ (27 + 8 * t = 151) := by omega
    have hold : ∀ (M2 : mM) (u : Nat), u < t → (∀ k, k ≠ 2 → k ≠ 59 → k ≠ 61 → k ≠ 62 → (k < 27 + 8 * t ∨ 27 + 8 * t + 6 < k) → k ≠ 97 → k ≠ 98 → (k < 101 ∨ 117 < k) → M2 k = M k) → (M2 101 u = M 101 u) → (∀ j : Int, j < 24 * t → M2 102 j = M 102 j ∧ M2 103 j = M 103 j ∧ M2 104 j = M 104 j ∧ M2 105 j = M 105 j) → (∀ j : Int, j < 400 * t → M2 106 j = M 106 j ∧ M2 107 j = M 107 j) → TXt M2 u (lw u) := fun M2 u hu e e1 e2 e3 => TXt_c2 (k4 u (by omega)) (fun k a b => e k (by omega) (by omega) (by omega) (by omega) (by omega) (by omega) (by omega) (by omega)) e1 (fun j a b => e2 j (by omega)) (fun j a b => e3 j (by omega))
    obtain ⟨E1, E2⟩ := CV_E k1
    obtain ⟨z1, z2, z3, z4, z5, z6, z7⟩ := k1.2.2.2.2.2
    simp (disch := first | decide | omega) only [b130, w130_0, w130_1, w130_4, w130_7, w130_8, w130_11, w130_12, w130_13, w130_14, w130_17, w130_18, w130_21, w130_22, w130_25, w130_28, w130_29, w130_32, w130_33, w130_34, w130_37, w130_38, w130_41, w130_42, w130_45, w130_46, w130_47, w130_48, w130_51, w130_52, w130_55, w130_56, w130_57, w130_60, w130_61, w130_64, w130_67, w130_68, w130_69, tc1, tr1_0, tr1_1, tr1_2, tr1_3, tr1_4, tr1_5, tr1_6, tr1_7, tr1_8, tr1_9, tr1_10, tr1_11, tc2, tr2_2, tr2_3, tr2_4, tr2_5, tr2_6, tr2_7, tr2_8, tr2_9, tr2_12, tr2_13, tr2_15, ta3, tn3, ta4, tn4, ta5, tn5, ta6, tn6, ta7, tn7, ta8, tn8, ta9, tn9, ta10, tn10, ta11, tn11, ta12, tn12, ta13, tn13, ta26, tn26, tr26_0, tr26_1, tr26_2, tr26_3, tc61, tr61_2, tr61_6, xLoad_i, xLoad_l, xLoad_r, xInc_s, xBr_t, xBr_f, xNz_s, xGf_s, xPf_s, xPz_s, xLd_2, xLd_7, xLd_10, xLdb_3, xLdb_5, xLdb_9, xLdl_4, xLdr_6, xSt_2, xStl_4, xStb_3, xStb_5, xLen_s, xLen_10, xCpy_s, xIv_s, xMx_s, mCont_s, mCont_n, w32_s, w64_s, upC_e, upC_n, upC_u, upC_c, mEn_c, mEn_n, mcw_i, mcw_l, mcw_r, mcat_n, mcat_i, mcat_l, mcat_r, xlong_i, xlong_l, xlong_r, xlong_n, s1_at, s2_at, ↓reduceIte, reduceCtorEq, and_self, true_and, and_true, false_and, and_false, Bool.false_eq_true, ne_eq, not_true_eq_false, not_false_eq_true, or_true, true_or, or_false, false_or, or_self, Int.tmod_eq_emod_of_nonneg, Int.tdiv_eq_ediv_of_nonneg, Classical.not_not, xSw, rOK, b2i_ok, b2i_0, b2i_1, Nat.reduceAdd, Nat.reduceSub, Nat.reduceMul, Nat.reduceEqDiff, Nat.reduceLeDiff, Nat.reduceLT, Int.reduceAdd, Int.reduceSub, Int.reduceMul, Int.reduceNeg, Int.reduceEq, Int.reduceNe, Int.reduceLT, Int.reduceLE, Int.reduceToNat, Int.reduceTDiv, Int.reduceTMod, b2i_em, m17, rf1]
    refine c_readAll (d := d + 30) (t := t) (n := n) (f := M 60) (T := T) (R := R) ht hTC hKK hTS hP (fun n0 M1 f1 a0 a1 => ?_) (fun n0 M1 P f1 hI hPl => ?_)
    · simp (disch := first | decide | omega) only [b130, w130_0, w130_1, w130_4, w130_7, w130_8, w130_11, w130_12, w130_13, w130_14, w130_17, w130_18, w130_21, w130_22, w130_25, w130_28, w130_29, w130_32, w130_33, w130_34, w130_37, w130_38, w130_41, w130_42, w130_45, w130_46, w130_47, w130_48, w130_51, w130_52, w130_55, w130_56, w130_57, w130_60, w130_61, w130_64, w130_67, w130_68, w130_69, tc1, tr1_0, tr1_1, tr1_2, tr1_3, tr1_4, tr1_5, tr1_6, tr1_7, tr1_8, tr1_9, tr1_10, tr1_11, tc2, tr2_2, tr2_3, tr2_4, tr2_5, tr2_6, tr2_7, tr2_8, tr2_9, tr2_12, tr2_13, tr2_15, ta3, tn3, ta4, tn4, ta5, tn5, ta6, tn6, ta7, tn7, ta8, tn8, ta9, tn9, ta10, tn10, ta11, tn11, ta12, tn12, ta13, tn13, tc59, tr59_0, ta60, tn60, xLoad_i, xLoad_l, xLoad_r, xInc_s, xBr_t, xBr_f, xNz_s, xGf_s, xPf_s, xPz_s, xLd_2, xLd_7, xLd_10, xLdb_3, xLdb_5, xLdb_9, xLdl_4, xLdr_6, xSt_2, xStl_4, xStb_3, xStb_5, xLen_s, xLen_10, xCpy_s, xIv_s, xMx_s, mCont_s, mCont_n, w32_s, w64_s, upC_e, upC_n, upC_u, upC_c, mEn_c, mEn_n, mcw_i, mcw_l, mcw_r, mcat_n, mcat_i, mcat_l, mcat_r, xlong_i, xlong_l, xlong_r, xlong_n, s1_at, s2_at, ↓reduceIte, reduceCtorEq, and_self, true_and, and_true, false_and, and_false, Bool.false_eq_true, ne_eq, not_true_eq_false, not_false_eq_true, or_true, true_or, or_false, false_or, or_self, Int.tmod_eq_emod_of_nonneg, Int.tdiv_eq_ediv_of_nonneg, Classical.not_not, xSw, rOK, b2i_ok, b2i_0, b2i_1, Nat.reduceAdd, Nat.reduceSub, Nat.reduceMul, Nat.reduceEqDiff, Nat.reduceLeDiff, Nat.reduceLT, Int.reduceAdd, Int.reduceSub, Int.reduceMul, Int.reduceNeg, Int.reduceEq, Int.reduceNe, Int.reduceLT, Int.reduceLE, Int.reduceToNat, Int.reduceTDiv, Int.reduceTMod, b2i_em]
      refine hK _ _ (fun K2 hK2 => ?_)
      have y98 : (upC M1 59 (mU (M1 59) 1 0)) 98 = M 98 := by rw [upC_n (by decide)]; exact f1.1 98 (by decide) (by decide) (by decide) (by omega)
      have y97 : (upC M1 59 (mU (M1 59) 1 0)) 97 = M 97 := by rw [upC_n (by decide)]; exact f1.1 97 (by decide) (by decide) (by decide) (by omega)
      have y100 : (upC M1 59 (mU (M1 59) 1 0)) 100 = M 100 := by rw [upC_n (by decide)]; exact f1.1 100 (by decide) (by decide) (by decide) (by omega)
      refine r_text (d := d + 31) (t := t) (n := n) (f := M 60) (T := T) (R := R) ht (by rw [y98]; exact htt) (by rw [y97, ← t1]; exact hn) (by omega) (fun i hi => ?_) hTS hP hR0 (fun g => absurd g n0) (fun _ M2 f2 b3 b4 b5 b6 => ?_) (fun g => absurd g n0)
      · rw [y100]
        have q := t3 i (by omega)
        exact ⟨q.1.symm, q.2⟩
      · have z : ∀ k, k ≠ 59 → k ≠ 61 → k ≠ 62 → (k < 27 + 8 * t ∨ 27 + 8 * t + 6 < k) → k ≠ 97 → (k < 108 ∨ 117 < k) → M2 k = M k := fun k a b c e g i => by
          rw [f2 k g i, upC_n a]
          exact f1.1 k a b c e
        have e98 := z 98 (by decide) (by decide) (by decide) (by omega) (by decide) (by decide)
        refine hK2 M2 lw (J_text hJ ht (fun k a1 a2 a3 a4 a5 a6 a7 a8 => z k a2 a3 a4 a5 a6 (by omega)) ?_ (by rw [e98]; omega) (fun u hu => ?_) ⟨?_, ?_, fun i hi => ?_, ?_, ?_⟩)
        · rw [e98]
          exact CV_c k1 (fun k a b => z k (by omega) (by omega) (by omega) (by omega) (by omega) (by omega))
        · rw [e98] at hu
          exact hold M2 u (by omega) (fun k a1 a2 a3 a4 a5 a6 a7 a8 => z k a2 a3 a4 a5 a6 (by omega)) (by rw [z 101 (by decide) (by decide) (by decide) (by omega) (by decide) (by decide)]) (fun j _ => by rw [z 102 (by decide) (by decide) (by decide) (by omega) (by decide) (by decide), z 103 (by decide) (by decide) (by decide) (by omega) (by decide) (by decide), z 104 (by decide) (by decide) (by decide) (by omega) (by decide) (by decide), z 105 (by decide) (by decide) (by decide) (by omega) (by decide) (by decide)]; exact ⟨rfl, rfl, rfl, rfl⟩) (fun j _ => by rw [z 106 (by decide) (by decide) (by decide) (by omega) (by decide) (by decide), z 107 (by decide) (by decide) (by decide) (by omega) (by decide) (by decide)]; exact ⟨rfl, rfl⟩)
        · rw [f2 59 (by decide) (by decide), upC_e, mU_e, b3]
        · rw [f2 59 (by decide) (by decide), upC_e, mU_e]
          decide
        · rw [f2 59 (by decide) (by decide), upC_e, mU_e] at hi
          omega
        · rw [f2 61 (by decide) (by decide), upC_n (by decide), a0, b4]
        · rw [f2 61 (by decide) (by decide), upC_n (by decide), a1, b5]
    · obtain ⟨⟨-, -, -, -, i0, i1⟩, -, i3, i4, i5, i6⟩ := hI
      have e2 : M1 2 = M 2 := f1.1 2 (by decide) (by decide) (by decide) (by omega)
      have m17' : M1 2 17 = t := by rw [e2]; exact m17
      have s1 : (t : Int) + 1 - 1 = t := by omega
      simp (disch := first | decide | omega) only [b130, w130_0, w130_1, w130_4, w130_7, w130_8, w130_11, w130_12, w130_13, w130_14, w130_17, w130_18, w130_21, w130_22, w130_25, w130_28, w130_29, w130_32, w130_33, w130_34, w130_37, w130_38, w130_41, w130_42, w130_45, w130_46, w130_47, w130_48, w130_51, w130_52, w130_55, w130_56, w130_57, w130_60, w130_61, w130_64, w130_67, w130_68, w130_69, tc1, tr1_0, tr1_1, tr1_2, tr1_3, tr1_4, tr1_5, tr1_6, tr1_7, tr1_8, tr1_9, tr1_10, tr1_11, tc2, tr2_2, tr2_3, tr2_4, tr2_5, tr2_6, tr2_7, tr2_8, tr2_9, tr2_12, tr2_13, tr2_15, ta3, tn3, ta4, tn4, ta5, tn5, ta6, tn6, ta7, tn7, ta8, tn8, ta9, tn9, ta10, tn10, ta11, tn11, ta12, tn12, ta13, tn13, tc59, tr59_0, ta60, tn60, xLoad_i, xLoad_l, xLoad_r, xInc_s, xBr_t, xBr_f, xNz_s, xGf_s, xPf_s, xPz_s, xLd_2, xLd_7, xLd_10, xLdb_3, xLdb_5, xLdb_9, xLdl_4, xLdr_6, xSt_2, xStl_4, xStb_3, xStb_5, xLen_s, xLen_10, xCpy_s, xIv_s, xMx_s, mCont_s, mCont_n, w32_s, w64_s, upC_e, upC_n, upC_u, upC_c, mEn_c, mEn_n, mcw_i, mcw_l, mcw_r, mcat_n, mcat_i, mcat_l, mcat_r, xlong_i, xlong_l, xlong_r, xlong_n, s1_at, s2_at, ↓reduceIte, reduceCtorEq, and_self, true_and, and_true, false_and, and_false, Bool.false_eq_true, ne_eq, not_true_eq_false, not_false_eq_true, or_true, true_or, or_false, false_or, or_self, Int.tmod_eq_emod_of_nonneg, Int.tdiv_eq_ediv_of_nonneg, Classical.not_not, xSw, rOK, b2i_ok, b2i_0, b2i_1, Nat.reduceAdd, Nat.reduceSub, Nat.reduceMul, Nat.reduceEqDiff, Nat.reduceLeDiff, Nat.reduceLT, Int.reduceAdd, Int.reduceSub, Int.reduceMul, Int.reduceNeg, Int.reduceEq, Int.reduceNe, Int.reduceLT, Int.reduceLE, Int.reduceToNat, Int.reduceTDiv, Int.reduceTMod, b2i_em, m17', s1, mU_e, mU_n]
      refine hK _ _ (fun K2 hK2 => ?_)
      obtain ⟨MA, hMA⟩ : ∃ MA, upC (upC M1 2 (mU (M1 2) 17 ((t : Int) + 1))) 59 (mU (M1 59) 1 0) = MA := ⟨_, rfl⟩
      rw [hMA]
      have y : ∀ k, k ≠ 2 → k ≠ 59 → MA k = M1 k := fun k a b => by rw [← hMA, upC_n b, upC_n a]
      have y2 : MA 2 = mU (M 2) 17 ((t : Int) + 1) := by rw [← hMA, upC_n (by decide), upC_e, e2]
      have y59 : MA 59 = mU (M1 59) 1 0 := by rw [← hMA, upC_e]
      have y98 : MA 98 = M 98 := by rw [y 98 (by decide) (by decide)]; exact f1.1 98 (by decide) (by decide) (by decide) (by omega)
      have y97 : MA 97 = M 97 := by rw [y 97 (by decide) (by decide)]; exact f1.1 97 (by decide) (by decide) (by decide) (by omega)
      have y100 : MA 100 = M 100 := by rw [y 100 (by decide) (by decide)]; exact f1.1 100 (by decide) (by decide) (by decide) (by omega)
      have hokD := hRD n0
      obtain ⟨D, hDD⟩ : ∃ D, R.2.2 = D := ⟨_, rfl⟩
      rw [hDD] at hokD i3 i4
      refine r_text (d := d + 31) (t := t) (n := n) (f := M 60) (T := T) (R := R) ht (by rw [y98]; exact htt) (by rw [y97, ← t1]; exact hn) (by omega) (fun i hi => ?_) hTS hP hR0 (fun _ => by rw [hDD]; exact hokD.1) (fun g => absurd n0 g) (fun _ M2 Q hQl f2 b3 b4 b5 b6 b98 b101 b102 b106 bD bn => ?_)
      · rw [y100]
        have q := t3 i (by omega)
        exact ⟨q.1.symm, q.2⟩
      · rw [hDD] at b101 b102 bD
        rw [y98] at b98
        have z : ∀ k, k ≠ 2 → k ≠ 59 → k ≠ 61 → k ≠ 62 → (k < 27 + 8 * t ∨ 27 + 8 * t + 6 < k) → k ≠ 97 → k ≠ 98 → (k < 101 ∨ 117 < k) → M2 k = M k := fun k a b c e g i j l => by
          rw [f2 k i j l, y k a b]
          exact f1.1 k b c e g
        have w : ∀ k, k ≠ 2 → k ≠ 59 → k ≠ 97 → k ≠ 98 → (k < 101 ∨ 117 < k) → M2 k = M1 k := fun k a b c e g => by rw [f2 k c e g, y k a b]
        have x : ∀ k, 101 ≤ k → k ≤ 117 → MA k = M k := fun k a b => by
          rw [y k (by omega) (by omega)]
          exact f1.1 k (by omega) (by omega) (by omega) (by omega)
        have e98' : M2 98 2 = (t : Int) + 1 := by rw [b98, mU_e]
        have c28 := (show ∀ k, 27 + 8 * t ≤ k → k ≤ 27 + 8 * t + 6 → M2 k = M1 k from fun k a b => w k (by omega) (by omega) (by omega) (by omega) (by omega))
        have hTn : TXt M2 t (lwD D) := by
          refine TXt_new (P := P) (Q := Q) hokD hPl hQl ⟨?_, fun i c hc => ?_⟩ (fun u u0 u3 => ?_) ?_ (by rw [b101, mU_e]) bD bn
          · rw [c28 _ (by omega) (by omega)]; exact i3.1
          · rw [c28 (27 + 8 * t + 1) (by omega) (by omega), c28 (27 + 8 * t + 2) (by omega) (by omega), c28 (27 + 8 * t + 3) (by omega) (by omega)]
            exact i3.2 i c hc
          · rw [c28 (27 + 8 * t + 5) (by omega) (by omega), c28 (27 + 8 * t + 6) (by omega) (by omega)]
            exact i4 u u0 u3
          · rw [c28 (27 + 8 * t + 4) (by omega) (by omega)]
            exact i6
        refine hK2 M2 (fun u => if u = t then lwD D else lw u) (J_text hJ ht z ?_ (by rw [e98']; omega) (fun u hu => ?_) ⟨?_, ?_, fun i hi => ?_, ?_, ?_⟩)
        · rw [b98]
          have q2 : M2 2 = mU (M 2) 17 ((t : Int) + 1) := by rw [f2 2 (by decide) (by decide) (by decide)]; exact y2
          refine CV_misc k1 (fun i hi => by rw [mU_n (by omega)]) ⟨by rw [q2, mU_n (by decide)], by rw [q2, mU_n (by decide)], by rw [q2, mU_n (by decide)], by rw [q2, mU_n (by decide)]⟩ (fun k hk => ?_) (fun b hb => ?_) (fun p q hp hq => ?_) ?_
          · have : 3 ≤ k ∧ k ≤ 10 := by revert hk; revert k; decide
            exact z k (by omega) (by omega) (by omega) (by omega) (by omega) (by omega) (by omega) (by omega)
          · rw [mU_n (by omega), z 5 (by decide) (by decide) (by decide) (by decide) (by omega) (by decide) (by decide) (by decide)]
            exact E1 b hb
          · rw [mU_n (by omega), mU_n (by omega)]
            exact E2 p q hp hq
          · unfold MI
            rw [q2]
            simp (disch := first | decide | omega) only [upC_e, upC_n, mU_e, mU_n]
            rw [z 3 (by decide) (by decide) (by decide) (by decide) (by omega) (by decide) (by decide) (by decide), z 11 (by decide) (by decide) (by decide) (by decide) (by omega) (by decide) (by decide) (by decide), z 12 (by decide) (by decide) (by decide) (by decide) (by omega) (by decide) (by decide) (by decide), z 13 (by decide) (by decide) (by decide) (by decide) (by omega) (by decide) (by decide) (by decide)]
            exact ⟨z1, z2, z3, ⟨trivial, by omega⟩, ⟨z5.1, z5.2.1, by omega⟩, fun k hk => by (try simp (disch := first | decide | omega) only [upC_e, upC_n, mU_e, mU_n]); exact z6 k hk, fun k hk => by (try simp (disch := first | decide | omega) only [upC_e, upC_n, mU_e, mU_n]); exact z7 k hk⟩
        · by_cases g : u = t
          · rw [if_pos g, g]
            exact hTn
          · rw [if_neg g]
            rw [e98'] at hu
            exact hold M2 u (by omega) z (by rw [b101, mU_n (by omega), x 101 (by decide) (by decide)]) (fun j hj => by
              obtain ⟨q1, q2, q3, q4⟩ := b102 j (Or.inl hj)
              rw [q1, q2, q3, q4, x 102 (by decide) (by decide), x 103 (by decide) (by decide), x 104 (by decide) (by decide), x 105 (by decide) (by decide)]
              exact ⟨rfl, rfl, rfl, rfl⟩) (fun j hj => by
              obtain ⟨q1, q2⟩ := b106 j (Or.inl hj)
              rw [q1, q2, x 106 (by decide) (by decide), x 107 (by decide) (by decide)]
              exact ⟨rfl, rfl⟩)
        · rw [f2 59 (by decide) (by decide) (by decide), y59, mU_e, b3]
        · rw [f2 59 (by decide) (by decide) (by decide), y59, mU_e]
          decide
        · rw [f2 59 (by decide) (by decide) (by decide), y59, mU_e] at hi
          omega
        · rw [w 61 (by decide) (by decide) (by decide) (by decide) (by decide), i0, b4]
        · rw [w 61 (by decide) (by decide) (by decide) (by decide) (by decide), i1, b5]
