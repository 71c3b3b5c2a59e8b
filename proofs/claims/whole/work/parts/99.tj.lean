/-! text: the reference writes what waits -/
def fW (M M' : mM) : Prop := (∀ k, k ≠ 97 → k ≠ 116 → k ≠ 117 → M' k = M k) ∧ ∀ i, i ≠ 24 → i ≠ 34 → M' 97 i = M 97 i
theorem fQ_W {M M' : mM} (h : fW M M') : fQ M M' := ⟨fun k a _ _ _ _ b c => h.1 k a b c, fun i _ _ a _ b => h.2 i a b⟩
theorem map_snd (ws : List Int) (n : Nat) : (wlA ws n).map Prod.fst = ws.map opk ∧ (wlA ws n).map Prod.snd = ws.map (fun _ => (n : Int)) := by
  unfold wlA
  rw [List.map_map, List.map_map]
  exact ⟨rfl, rfl⟩
theorem wlA_len (ws : List Int) (n : Nat) : (wlA ws n).length = ws.length := List.length_map _
set_option maxHeartbeats 1000000 in
theorem r_works {d fr : Nat} {K : mQ} {r : Int} {U : List (Int × Int)} (hU : ∀ q R, U = q :: R → q.2 ≠ fr ∨ rkR q.1 < r) (hUl : U.length ≤ 40) : ∀ (A : List Int) (M : mM) (L : List (Int × Int)) (lv : mL), (∀ k ∈ A, r ≤ rkR (opk k) ∧ opk k ≠ 400 ∧ opk k ≠ 401) → M 97 21 = fr → M 97 24 = (A.length : Int) + U.length → A.length ≤ 30 → aSt (M 110) (A.map opk ++ U.map Prod.fst) → aSt (M 111) (A.map (fun _ => (fr : Int)) ++ U.map Prod.snd) → M 97 34 = L.length → L.length + A.length < 400 → nco (M 116) (M 117) 0 L → lv 0 = some (vr 97) → lv 1 = some (vi r) → (∀ M', fW M M' → M' 97 24 = U.length → M' 97 34 = (L ++ em A).length → nco (M' 116) (M' 117) 0 (L ++ em A) → K none M') → rn (d + 1) 186 K 0 lv [] M
  | [], M, L, lv, hA, h21, h24, hAl, s0, s1, h34, hL, hn, g0, g1, hK => by
    rw [List.length_nil, show ((0 : Nat) : Int) + (U.length : Int) = U.length by omega] at h24
    have hr := hK M ⟨fun _ _ _ _ => rfl, fun _ _ _ => rfl⟩ h24 (by rw [em_nil]; exact h34) (by rw [em_nil]; exact hn)
    clear hK
    cases hu : U with
    | nil =>
      have h240 : M 97 24 = 0 := by rw [h24, hu]; rfl
      rw [w186_0]
      simp (disch := first | decide | omega) only [b186, w186_1, w186_4, w186_7, w186_8, w186_11, w186_12, w186_15, w186_16, w186_17, w186_18, w186_19, w186_22, w186_25, w186_26, w186_29, w186_30, w186_33, w186_34, w186_35, w186_36, w186_39, w186_40, w186_43, w186_44, w186_45, w186_48, w186_49, w186_50, w186_53, w186_54, w186_55, w186_58, w186_59, w186_62, w186_63, w186_64, w186_67, w186_70, tc97, tr97_0, tr97_1, tr97_2, tr97_6, tr97_7, tr97_8, tr97_9, tr97_10, tr97_11, tr97_12, tr97_22, tr97_23, tr97_25, tr97_26, tr97_30, tr97_31, tr97_32, tr97_33, tr97_35, tr97_36, tr97_37, tr97_38, tr97_40, tr97_41, tr97_42, tr97_43, tr97_44, tr97_45, tr97_46, tr97_47, tr97_48, tr97_49, tr97_50, tr97_51, tr97_52, tr97_53, tr97_54, tr97_55, tr97_56, tr97_57, tr97_58, tr97_59, tr97_60, tr97_61, ta98, tn98, ta99, tn99, ta100, tn100, ta101, tn101, ta102, tn102, ta103, tn103, ta104, tn104, ta105, tn105, ta106, tn106, ta107, tn107, ta108, tn108, ta109, tn109, ta110, tn110, ta111, tn111, ta112, tn112, ta113, tn113, ta114, tn114, ta115, tn115, ta116, tn116, ta117, tn117, ta118, tn118, ta119, tn119, ta120, tn120, ta121, tn121, ta122, tn122, ta123, tn123, ta124, tn124, ta125, tn125, ta126, tn126, ta127, tn127, ta128, tn128, ta129, tn129, ta130, tn130, ta131, tn131, ta132, tn132, ta133, tn133, ta134, tn134, ta135, tn135, ta136, tn136, ta137, tn137, ta138, tn138, ta139, tn139, ta140, tn140, ta141, tn141, xLoad_i, xLoad_l, xLoad_r, xInc_s, xBr_t, xBr_f, xNz_s, xGf_s, xPf_s, xPz_s, xLd_2, xLd_7, xLd_10, xLdb_3, xLdb_5, xLdb_9, xLdl_4, xLdr_6, xSt_2, xStl_4, xStb_3, xStb_5, xLen_s, xLen_10, xCpy_s, xIv_s, xMx_s, mCont_s, mCont_n, w32_s, w64_s, upC_e, upC_n, upC_u, upC_c, mEn_c, mEn_n, mcw_i, mcw_l, mcw_r, mcat_n, mcat_i, mcat_l, mcat_r, xlong_i, xlong_l, xlong_r, xlong_n, s1_at, s2_at, ↓reduceIte, reduceCtorEq, and_self, true_and, and_true, false_and, and_false, Bool.false_eq_true, ne_eq, not_true_eq_false, not_false_eq_true, or_true, true_or, or_false, false_or, or_self, Int.tmod_eq_emod_of_nonneg, Int.tdiv_eq_ediv_of_nonneg, Classical.not_not, xSw, rOK, b2i_ok, b2i_0, b2i_1, Nat.reduceAdd, Nat.reduceSub, Nat.reduceMul, Nat.reduceEqDiff, Nat.reduceLeDiff, Nat.reduceLT, Int.reduceAdd, Int.reduceSub, Int.reduceMul, Int.reduceNeg, Int.reduceEq, Int.reduceNe, Int.reduceLT, Int.reduceLE, Int.reduceToNat, Int.reduceTDiv, Int.reduceTMod, b2i_em, g0, g1, h240]
      exact hr
    | cons q R =>
      have hq := hU q R hu
      rw [hu] at s0 s1
      have q0 : M 110 (R.length : Int) = q.1 := by have := s0.1; rw [List.length_map] at this; exact this
      have q1 : M 111 (R.length : Int) = q.2 := by have := s1.1; rw [List.length_map] at this; exact this
      rw [hu, List.length_cons] at h24 hUl
      have e7 : ((R.length + 1 : Nat) : Int) = (R.length : Int) + 1 := by omega
      rw [e7] at h24
      have e8 : (R.length : Int) + 1 - 1 = R.length := by omega
      rw [w186_0]
      by_cases c : q.2 = fr
      · have c2 : rkR q.1 < r := hq.resolve_left (fun e => e c)
        rw [c] at q1
        simp (disch := first | decide | omega) only [b186, w186_1, w186_4, w186_7, w186_8, w186_11, w186_12, w186_15, w186_16, w186_17, w186_18, w186_19, w186_22, w186_25, w186_26, w186_29, w186_30, w186_33, w186_34, w186_35, w186_36, w186_39, w186_40, w186_43, w186_44, w186_45, w186_48, w186_49, w186_50, w186_53, w186_54, w186_55, w186_58, w186_59, w186_62, w186_63, w186_64, w186_67, w186_70, tc97, tr97_0, tr97_1, tr97_2, tr97_6, tr97_7, tr97_8, tr97_9, tr97_10, tr97_11, tr97_12, tr97_22, tr97_23, tr97_25, tr97_26, tr97_30, tr97_31, tr97_32, tr97_33, tr97_35, tr97_36, tr97_37, tr97_38, tr97_40, tr97_41, tr97_42, tr97_43, tr97_44, tr97_45, tr97_46, tr97_47, tr97_48, tr97_49, tr97_50, tr97_51, tr97_52, tr97_53, tr97_54, tr97_55, tr97_56, tr97_57, tr97_58, tr97_59, tr97_60, tr97_61, ta98, tn98, ta99, tn99, ta100, tn100, ta101, tn101, ta102, tn102, ta103, tn103, ta104, tn104, ta105, tn105, ta106, tn106, ta107, tn107, ta108, tn108, ta109, tn109, ta110, tn110, ta111, tn111, ta112, tn112, ta113, tn113, ta114, tn114, ta115, tn115, ta116, tn116, ta117, tn117, ta118, tn118, ta119, tn119, ta120, tn120, ta121, tn121, ta122, tn122, ta123, tn123, ta124, tn124, ta125, tn125, ta126, tn126, ta127, tn127, ta128, tn128, ta129, tn129, ta130, tn130, ta131, tn131, ta132, tn132, ta133, tn133, ta134, tn134, ta135, tn135, ta136, tn136, ta137, tn137, ta138, tn138, ta139, tn139, ta140, tn140, ta141, tn141, xLoad_i, xLoad_l, xLoad_r, xInc_s, xBr_t, xBr_f, xNz_s, xGf_s, xPf_s, xPz_s, xLd_2, xLd_7, xLd_10, xLdb_3, xLdb_5, xLdb_9, xLdl_4, xLdr_6, xSt_2, xStl_4, xStb_3, xStb_5, xLen_s, xLen_10, xCpy_s, xIv_s, xMx_s, mCont_s, mCont_n, w32_s, w64_s, upC_e, upC_n, upC_u, upC_c, mEn_c, mEn_n, mcw_i, mcw_l, mcw_r, mcat_n, mcat_i, mcat_l, mcat_r, xlong_i, xlong_l, xlong_r, xlong_n, s1_at, s2_at, ↓reduceIte, reduceCtorEq, and_self, true_and, and_true, false_and, and_false, Bool.false_eq_true, ne_eq, not_true_eq_false, not_false_eq_true, or_true, true_or, or_false, false_or, or_self, Int.tmod_eq_emod_of_nonneg, Int.tdiv_eq_ediv_of_nonneg, Classical.not_not, xSw, rOK, b2i_ok, b2i_0, b2i_1, Nat.reduceAdd, Nat.reduceSub, Nat.reduceMul, Nat.reduceEqDiff, Nat.reduceLeDiff, Nat.reduceLT, Int.reduceAdd, Int.reduceSub, Int.reduceMul, Int.reduceNeg, Int.reduceEq, Int.reduceNe, Int.reduceLT, Int.reduceLE, Int.reduceToNat, Int.reduceTDiv, Int.reduceTMod, b2i_em, g0, g1, h24, h21, e8, q0, q1, r_rank, c2]
        exact hr
      · simp (disch := first | decide | omega) only [b186, w186_1, w186_4, w186_7, w186_8, w186_11, w186_12, w186_15, w186_16, w186_17, w186_18, w186_19, w186_22, w186_25, w186_26, w186_29, w186_30, w186_33, w186_34, w186_35, w186_36, w186_39, w186_40, w186_43, w186_44, w186_45, w186_48, w186_49, w186_50, w186_53, w186_54, w186_55, w186_58, w186_59, w186_62, w186_63, w186_64, w186_67, w186_70, tc97, tr97_0, tr97_1, tr97_2, tr97_6, tr97_7, tr97_8, tr97_9, tr97_10, tr97_11, tr97_12, tr97_22, tr97_23, tr97_25, tr97_26, tr97_30, tr97_31, tr97_32, tr97_33, tr97_35, tr97_36, tr97_37, tr97_38, tr97_40, tr97_41, tr97_42, tr97_43, tr97_44, tr97_45, tr97_46, tr97_47, tr97_48, tr97_49, tr97_50, tr97_51, tr97_52, tr97_53, tr97_54, tr97_55, tr97_56, tr97_57, tr97_58, tr97_59, tr97_60, tr97_61, ta98, tn98, ta99, tn99, ta100, tn100, ta101, tn101, ta102, tn102, ta103, tn103, ta104, tn104, ta105, tn105, ta106, tn106, ta107, tn107, ta108, tn108, ta109, tn109, ta110, tn110, ta111, tn111, ta112, tn112, ta113, tn113, ta114, tn114, ta115, tn115, ta116, tn116, ta117, tn117, ta118, tn118, ta119, tn119, ta120, tn120, ta121, tn121, ta122, tn122, ta123, tn123, ta124, tn124, ta125, tn125, ta126, tn126, ta127, tn127, ta128, tn128, ta129, tn129, ta130, tn130, ta131, tn131, ta132, tn132, ta133, tn133, ta134, tn134, ta135, tn135, ta136, tn136, ta137, tn137, ta138, tn138, ta139, tn139, ta140, tn140, ta141, tn141, xLoad_i, xLoad_l, xLoad_r, xInc_s, xBr_t, xBr_f, xNz_s, xGf_s, xPf_s, xPz_s, xLd_2, xLd_7, xLd_10, xLdb_3, xLdb_5, xLdb_9, xLdl_4, xLdr_6, xSt_2, xStl_4, xStb_3, xStb_5, xLen_s, xLen_10, xCpy_s, xIv_s, xMx_s, mCont_s, mCont_n, w32_s, w64_s, upC_e, upC_n, upC_u, upC_c, mEn_c, mEn_n, mcw_i, mcw_l, mcw_r, mcat_n, mcat_i, mcat_l, mcat_r, xlong_i, xlong_l, xlong_r, xlong_n, s1_at, s2_at, ↓reduceIte, reduceCtorEq, and_self, true_and, and_true, false_and, and_false, Bool.false_eq_true, ne_eq, not_true_eq_false, not_false_eq_true, or_true, true_or, or_false, false_or, or_self, Int.tmod_eq_emod_of_nonneg, Int.tdiv_eq_ediv_of_nonneg, Classical.not_not, xSw, rOK, b2i_ok, b2i_0, b2i_1, Nat.reduceAdd, Nat.reduceSub, Nat.reduceMul, Nat.reduceEqDiff, Nat.reduceLeDiff, Nat.reduceLT, Int.reduceAdd, Int.reduceSub, Int.reduceMul, Int.reduceNeg, Int.reduceEq, Int.reduceNe, Int.reduceLT, Int.reduceLE, Int.reduceToNat, Int.reduceTDiv, Int.reduceTMod, b2i_em, g0, g1, h24, h21, e8, q0, q1, c]
        exact hr
  | k :: A, M, L, lv, hA, h21, h24, hAl, s0, s1, h34, hL, hn, g0, g1, hK => by
    obtain ⟨k1, k2, k3⟩ := hA k (List.mem_cons_self ..)
    rw [List.length_cons] at h24 hAl hL
    obtain ⟨H, hH⟩ : ∃ H : Nat, A.length + U.length = H := ⟨_, rfl⟩
    have q0 : M 110 (H : Int) = opk k := by
      have h0 : (A.map opk ++ U.map Prod.fst).length = H := by rw [List.length_append, List.length_map, List.length_map, hH]
      rw [← h0]
      exact s0.1
    have q1 : M 111 (H : Int) = fr := by
      have h0 : (A.map (fun _ => (fr : Int)) ++ U.map Prod.snd).length = H := by rw [List.length_append, List.length_map, List.length_map, hH]
      rw [← h0]
      exact s1.1
    have h24' : M 97 24 = (H : Int) + 1 := by omega
    have e8 : (H : Int) + 1 - 1 = H := by omega
    have hC1 : (L ++ [(opk k, 0)]) ++ em A = L ++ em (k :: A) := (em_cons k A L).symm
    have hl1 : ((L ++ [(opk k, (0 : Int))]).length : Int) = (L.length : Int) + 1 := by
      rw [List.length_append]
      rfl
    have ih := fun M2 lv2 => r_works (d := d) (K := K) hU hUl A M2 (L ++ [(opk k, 0)]) lv2 (fun x hx => hA x (List.mem_cons_of_mem _ hx))
    rw [w186_0]
    simp (disch := first | decide | omega) only [b186, w186_1, w186_4, w186_7, w186_8, w186_11, w186_12, w186_15, w186_16, w186_17, w186_18, w186_19, w186_22, w186_25, w186_26, w186_29, w186_30, w186_33, w186_34, w186_35, w186_36, w186_39, w186_40, w186_43, w186_44, w186_45, w186_48, w186_49, w186_50, w186_53, w186_54, w186_55, w186_58, w186_59, w186_62, w186_63, w186_64, w186_67, w186_70, tc97, tr97_0, tr97_1, tr97_2, tr97_6, tr97_7, tr97_8, tr97_9, tr97_10, tr97_11, tr97_12, tr97_22, tr97_23, tr97_25, tr97_26, tr97_30, tr97_31, tr97_32, tr97_33, tr97_35, tr97_36, tr97_37, tr97_38, tr97_40, tr97_41, tr97_42, tr97_43, tr97_44, tr97_45, tr97_46, tr97_47, tr97_48, tr97_49, tr97_50, tr97_51, tr97_52, tr97_53, tr97_54, tr97_55, tr97_56, tr97_57, tr97_58, tr97_59, tr97_60, tr97_61, ta98, tn98, ta99, tn99, ta100, tn100, ta101, tn101, ta102, tn102, ta103, tn103, ta104, tn104, ta105, tn105, ta106, tn106, ta107, tn107, ta108, tn108, ta109, tn109, ta110, tn110, ta111, tn111, ta112, tn112, ta113, tn113, ta114, tn114, ta115, tn115, ta116, tn116, ta117, tn117, ta118, tn118, ta119, tn119, ta120, tn120, ta121, tn121, ta122, tn122, ta123, tn123, ta124, tn124, ta125, tn125, ta126, tn126, ta127, tn127, ta128, tn128, ta129, tn129, ta130, tn130, ta131, tn131, ta132, tn132, ta133, tn133, ta134, tn134, ta135, tn135, ta136, tn136, ta137, tn137, ta138, tn138, ta139, tn139, ta140, tn140, ta141, tn141, xLoad_i, xLoad_l, xLoad_r, xInc_s, xBr_t, xBr_f, xNz_s, xGf_s, xPf_s, xPz_s, xLd_2, xLd_7, xLd_10, xLdb_3, xLdb_5, xLdb_9, xLdl_4, xLdr_6, xSt_2, xStl_4, xStb_3, xStb_5, xLen_s, xLen_10, xCpy_s, xIv_s, xMx_s, mCont_s, mCont_n, w32_s, w64_s, upC_e, upC_n, upC_u, upC_c, mEn_c, mEn_n, mcw_i, mcw_l, mcw_r, mcat_n, mcat_i, mcat_l, mcat_r, xlong_i, xlong_l, xlong_r, xlong_n, s1_at, s2_at, ↓reduceIte, reduceCtorEq, and_self, true_and, and_true, false_and, and_false, Bool.false_eq_true, ne_eq, not_true_eq_false, not_false_eq_true, or_true, true_or, or_false, false_or, or_self, Int.tmod_eq_emod_of_nonneg, Int.tdiv_eq_ediv_of_nonneg, Classical.not_not, xSw, rOK, b2i_ok, b2i_0, b2i_1, Nat.reduceAdd, Nat.reduceSub, Nat.reduceMul, Nat.reduceEqDiff, Nat.reduceLeDiff, Nat.reduceLT, Int.reduceAdd, Int.reduceSub, Int.reduceMul, Int.reduceNeg, Int.reduceEq, Int.reduceNe, Int.reduceLT, Int.reduceLE, Int.reduceToNat, Int.reduceTDiv, Int.reduceTMod, b2i_em, g0, g1, h24', h21, e8, q0, q1, r_rank, k1, mU_e]
    rw [r_emits (s := L.length) (by simp (disch := first | decide | omega) only [upC_e, upC_n, mU_e, mU_n]; exact h34) ⟨by omega, by omega⟩]
    simp (disch := first | decide | omega) only [b186, w186_1, w186_4, w186_7, w186_8, w186_11, w186_12, w186_15, w186_16, w186_17, w186_18, w186_19, w186_22, w186_25, w186_26, w186_29, w186_30, w186_33, w186_34, w186_35, w186_36, w186_39, w186_40, w186_43, w186_44, w186_45, w186_48, w186_49, w186_50, w186_53, w186_54, w186_55, w186_58, w186_59, w186_62, w186_63, w186_64, w186_67, w186_70, tc97, tr97_0, tr97_1, tr97_2, tr97_6, tr97_7, tr97_8, tr97_9, tr97_10, tr97_11, tr97_12, tr97_22, tr97_23, tr97_25, tr97_26, tr97_30, tr97_31, tr97_32, tr97_33, tr97_35, tr97_36, tr97_37, tr97_38, tr97_40, tr97_41, tr97_42, tr97_43, tr97_44, tr97_45, tr97_46, tr97_47, tr97_48, tr97_49, tr97_50, tr97_51, tr97_52, tr97_53, tr97_54, tr97_55, tr97_56, tr97_57, tr97_58, tr97_59, tr97_60, tr97_61, ta98, tn98, ta99, tn99, ta100, tn100, ta101, tn101, ta102, tn102, ta103, tn103, ta104, tn104, ta105, tn105, ta106, tn106, ta107, tn107, ta108, tn108, ta109, tn109, ta110, tn110, ta111, tn111, ta112, tn112, ta113, tn113, ta114, tn114, ta115, tn115, ta116, tn116, ta117, tn117, ta118, tn118, ta119, tn119, ta120, tn120, ta121, tn121, ta122, tn122, ta123, tn123, ta124, tn124, ta125, tn125, ta126, tn126, ta127, tn127, ta128, tn128, ta129, tn129, ta130, tn130, ta131, tn131, ta132, tn132, ta133, tn133, ta134, tn134, ta135, tn135, ta136, tn136, ta137, tn137, ta138, tn138, ta139, tn139, ta140, tn140, ta141, tn141, xLoad_i, xLoad_l, xLoad_r, xInc_s, xBr_t, xBr_f, xNz_s, xGf_s, xPf_s, xPz_s, xLd_2, xLd_7, xLd_10, xLdb_3, xLdb_5, xLdb_9, xLdl_4, xLdr_6, xSt_2, xStl_4, xStb_3, xStb_5, xLen_s, xLen_10, xCpy_s, xIv_s, xMx_s, mCont_s, mCont_n, w32_s, w64_s, upC_e, upC_n, upC_u, upC_c, mEn_c, mEn_n, mcw_i, mcw_l, mcw_r, mcat_n, mcat_i, mcat_l, mcat_r, xlong_i, xlong_l, xlong_r, xlong_n, s1_at, s2_at, ↓reduceIte, reduceCtorEq, and_self, true_and, and_true, false_and, and_false, Bool.false_eq_true, ne_eq, not_true_eq_false, not_false_eq_true, or_true, true_or, or_false, false_or, or_self, Int.tmod_eq_emod_of_nonneg, Int.tdiv_eq_ediv_of_nonneg, Classical.not_not, xSw, rOK, b2i_ok, b2i_0, b2i_1, Nat.reduceAdd, Nat.reduceSub, Nat.reduceMul, Nat.reduceEqDiff, Nat.reduceLeDiff, Nat.reduceLT, Int.reduceAdd, Int.reduceSub, Int.reduceMul, Int.reduceNeg, Int.reduceEq, Int.reduceNe, Int.reduceLT, Int.reduceLE, Int.reduceToNat, Int.reduceTDiv, Int.reduceTMod, b2i_em, g0]
    refine ih _ _ ?_ ?_ (by omega) ?_ ?_ ?_ ?_ ?_ ?_ ?_ ?_
    · simp (disch := first | decide | omega) only [upC_e, upC_n, mU_e, mU_n]
      exact h21
    · simp (disch := first | decide | omega) only [upC_e, upC_n, mU_e, mU_n]
      omega
    · simp (disch := first | decide | omega) only [upC_e, upC_n, mU_e, mU_n]
      exact s0.2
    · simp (disch := first | decide | omega) only [upC_e, upC_n, mU_e, mU_n]
      exact s1.2
    · simp (disch := first | decide | omega) only [upC_e, upC_n, mU_e, mU_n]
      omega
    · rw [List.length_append, List.length_singleton]; omega
    · simp (disch := first | decide | omega) only [upC_e, upC_n, mU_e, mU_n]
      exact nco_snE rfl ⟨k2, k3⟩ hn
    · simp [s1_at, s2_at, mEn_c, mcw_r, mcw_i, mcw_l, xlong_i, xlong_r, xlong_l, xlong_n, g0]
    · simp [s1_at, s2_at, mEn_c, mcw_r, mcw_i, mcw_l, xlong_i, xlong_r, xlong_l, xlong_n, g1]
    · intro M' f' b24 b34 bn
      rw [hC1] at b34 bn
      refine hK M' ⟨fun k a b c => ?_, fun i a b => ?_⟩ b24 b34 bn
      · rw [f'.1 k a b c]
        simp (disch := first | decide | omega) only [upC_e, upC_n, mU_e, mU_n]
      · rw [f'.2 i a b]
        simp (disch := first | decide | omega) only [upC_e, upC_n, mU_e, mU_n]
theorem wl_c {x : Int} {ws : List Int} {G : FR} : wl ((x, ws) :: G) = wlA ws (G.length + 1) ++ wl G := rfl
/-- the head of the other frames' waits is of another frame -/
theorem wl_hd : ∀ (G : FR) (q : Int × Int) (R : List (Int × Int)), wl G = q :: R → q.2 ≤ G.length
  | [], q, R, h => by cases h
  | (x, ws) :: G, q, R, h => by
    rw [wl_c] at h
    cases ws with
    | nil =>
      have := wl_hd G q R h
      rw [List.length_cons]
      omega
    | cons k ws =>
      replace h : (opk k, ((G.length + 1 : Nat) : Int)) :: (wlA ws (G.length + 1) ++ wl G) = q :: R := h
      injection h with h1 h2
      rw [← h1, List.length_cons]
      show ((G.length + 1 : Nat) : Int) ≤ _
      omega
theorem wl_len {tn : Bool} : ∀ F : FR, okF tn F → (wl F).length ≤ 2 * F.length
  | [], h => h.elim
  | [(x, ws)], h => by
    have h2 := (okF_2 h).1
    rw [wl_c, List.length_append, wlA_len]
    show ws.length + 0 ≤ 2 * 1
    omega
  | (x, ws) :: (y, us) :: F, h => by
    have ih := wl_len ((y, us) :: F) h.1
    have h2 := (okF_2 h).1
    rw [wl_c, List.length_append, wlA_len, List.length_cons]
    omega
set_option maxHeartbeats 1000000 in
/-- the top frame's waits of a rank: written -/
theorem r_worksF {d : Nat} {M : mM} {K : mQ} {w s r x : Int} {A B : List Int} {G : FR} {L : List (Int × Int)} {tn : Bool} (hF : okF tn ((x, A ++ B) :: G)) (hd : dep ((x, A ++ B) :: G) ≤ 8) (h : RSf M w ((x, A ++ B) :: G) L s) (hL : L.length ≤ 300) (hA : ∀ k ∈ A, r ≤ rkR (opk k)) (hB : ∀ b R, B = b :: R → rkR (opk b) < r) (hK : ∀ M', fQ M M' → RSf M' w ((x, B) :: G) (L ++ em A) s → K none M') : mCall (d + 2) 186 [vr 97, vi r] M K := by
  obtain ⟨a18, a20, a21, a108, a109, a24, a110, a111, a27, a29, a34, an⟩ := h
  have hl := (len_F _ hF).1
  have h2 := okF_2 hF
  have hwl := wl_len _ hF
  have hAB : (A ++ B).length = A.length + B.length := List.length_append
  obtain ⟨m1, m2⟩ := map_snd (A ++ B) (G.length + 1)
  obtain ⟨m3, m4⟩ := map_snd B (G.length + 1)
  rw [wl_c, List.length_append, wlA_len, hAB] at a24 hwl
  rw [wl_c, List.map_append, m1, List.map_append, List.append_assoc] at a110
  rw [wl_c, List.map_append, m2, List.map_append, List.append_assoc] at a111
  rw [List.length_cons] at a21 hl hwl
  have hAop : ∀ k ∈ A, opk k ≠ 400 ∧ opk k ≠ 401 := fun k hk => by
    obtain ⟨q1, q2, q3, q4⟩ := h2.2 k (List.mem_append_left _ hk)
    exact (oTk_opk q1 q2).2
  simp (disch := first | decide | omega) only [b186, w186_1, w186_4, w186_7, w186_8, w186_11, w186_12, w186_15, w186_16, w186_17, w186_18, w186_19, w186_22, w186_25, w186_26, w186_29, w186_30, w186_33, w186_34, w186_35, w186_36, w186_39, w186_40, w186_43, w186_44, w186_45, w186_48, w186_49, w186_50, w186_53, w186_54, w186_55, w186_58, w186_59, w186_62, w186_63, w186_64, w186_67, w186_70, tc97, tr97_0, tr97_1, tr97_2, tr97_6, tr97_7, tr97_8, tr97_9, tr97_10, tr97_11, tr97_12, tr97_22, tr97_23, tr97_25, tr97_26, tr97_30, tr97_31, tr97_32, tr97_33, tr97_35, tr97_36, tr97_37, tr97_38, tr97_40, tr97_41, tr97_42, tr97_43, tr97_44, tr97_45, tr97_46, tr97_47, tr97_48, tr97_49, tr97_50, tr97_51, tr97_52, tr97_53, tr97_54, tr97_55, tr97_56, tr97_57, tr97_58, tr97_59, tr97_60, tr97_61, ta98, tn98, ta99, tn99, ta100, tn100, ta101, tn101, ta102, tn102, ta103, tn103, ta104, tn104, ta105, tn105, ta106, tn106, ta107, tn107, ta108, tn108, ta109, tn109, ta110, tn110, ta111, tn111, ta112, tn112, ta113, tn113, ta114, tn114, ta115, tn115, ta116, tn116, ta117, tn117, ta118, tn118, ta119, tn119, ta120, tn120, ta121, tn121, ta122, tn122, ta123, tn123, ta124, tn124, ta125, tn125, ta126, tn126, ta127, tn127, ta128, tn128, ta129, tn129, ta130, tn130, ta131, tn131, ta132, tn132, ta133, tn133, ta134, tn134, ta135, tn135, ta136, tn136, ta137, tn137, ta138, tn138, ta139, tn139, ta140, tn140, ta141, tn141, xLoad_i, xLoad_l, xLoad_r, xInc_s, xBr_t, xBr_f, xNz_s, xGf_s, xPf_s, xPz_s, xLd_2, xLd_7, xLd_10, xLdb_3, xLdb_5, xLdb_9, xLdl_4, xLdr_6, xSt_2, xStl_4, xStb_3, xStb_5, xLen_s, xLen_10, xCpy_s, xIv_s, xMx_s, mCont_s, mCont_n, w32_s, w64_s, upC_e, upC_n, upC_u, upC_c, mEn_c, mEn_n, mcw_i, mcw_l, mcw_r, mcat_n, mcat_i, mcat_l, mcat_r, xlong_i, xlong_l, xlong_r, xlong_n, s1_at, s2_at, ↓reduceIte, reduceCtorEq, and_self, true_and, and_true, false_and, and_false, Bool.false_eq_true, ne_eq, not_true_eq_false, not_false_eq_true, or_true, true_or, or_false, false_or, or_self, Int.tmod_eq_emod_of_nonneg, Int.tdiv_eq_ediv_of_nonneg, Classical.not_not, xSw, rOK, b2i_ok, b2i_0, b2i_1, Nat.reduceAdd, Nat.reduceSub, Nat.reduceMul, Nat.reduceEqDiff, Nat.reduceLeDiff, Nat.reduceLT, Int.reduceAdd, Int.reduceSub, Int.reduceMul, Int.reduceNeg, Int.reduceEq, Int.reduceNe, Int.reduceLT, Int.reduceLE, Int.reduceToNat, Int.reduceTDiv, Int.reduceTMod, b2i_em]
  refine r_works (d := d) (fr := G.length + 1) (r := r) (U := wlA B (G.length + 1) ++ wl G) (fun q R e => ?_) ?_ A M L _ (fun k hk => ⟨hA k hk, hAop k hk⟩) a21 ?_ (by omega) ?_ ?_ a34 (by omega) an ?_ ?_ (fun M' f b24 b34 bn => ?_)
  · cases hb : B with
    | nil =>
      rw [hb] at e
      have := wl_hd G q R e
      exact Or.inl (by omega)
    | cons b B' =>
      rw [hb] at e
      replace e : (opk b, ((G.length + 1 : Nat) : Int)) :: (wlA B' (G.length + 1) ++ wl G) = q :: R := e
      injection e with e1 e2
      rw [← e1]
      exact Or.inr (hB b B' hb)
  · rw [List.length_append, wlA_len]; omega
  · rw [a24, List.length_append, wlA_len]; omega
  · rw [List.map_append, m3]; exact a110
  · rw [List.map_append, m4]; exact a111
  · simp [s1_at, s2_at, mEn_c, mcw_r, mcw_i, mcw_l, xlong_i, xlong_r, xlong_l, xlong_n]
  · simp [s1_at, s2_at, mEn_c, mcw_r, mcw_i, mcw_l, xlong_i, xlong_r, xlong_l, xlong_n]
  · have z := f.1
    have y := f.2
    refine hK M' (fQ_W f) ⟨?_, ?_, ?_, ?_, ?_, ?_, ?_, ?_, ?_, ?_, b34, bn⟩
    · rw [y 18 (by decide) (by decide)]; exact a18
    · rw [y 20 (by decide) (by decide)]; exact a20
    · rw [y 21 (by decide) (by decide)]; exact a21
    · rw [z 108 (by decide) (by decide) (by decide)]; exact a108
    · rw [z 109 (by decide) (by decide) (by decide)]; exact a109
    · rw [b24]; rfl
    · rw [z 110 (by decide) (by decide) (by decide), wl_c, List.map_append, m3]
      exact aSt_app _ _ a110
    · rw [z 111 (by decide) (by decide) (by decide), wl_c, List.map_append, m4]
      exact aSt_app _ _ a111
    · rw [y 27 (by decide) (by decide)]; exact a27
    · rw [y 29 (by decide) (by decide)]; exact a29
/-- the code of the top frame -/
theorem r_topF {d : Nat} {M : mM} {K : mQ} {w s x : Int} {ws : List Int} {G : FR} {L : List (Int × Int)} (hG : G.length ≤ 20) (h : RSf M w ((x, ws) :: G) L s) : mCall (d + 1) 183 [vr 97] M K = K (some (vi (frC w x))) M := by
  obtain ⟨a18, a20, a21, a108, -⟩ := h
  rw [List.length_cons] at a21
  refine r_top (s := G.length) (by rw [a21]; omega) ⟨by omega, by omega⟩ ?_
  have := a108.1
  rw [List.length_map] at this
  exact this
theorem RSf_s {M : mM} {w : Int} {F : FR} {L : List (Int × Int)} {s x : Int} (h : RSf M w F L s) : RSf (upC M 97 (mU (M 97) 27 x)) w F L x := by
  obtain ⟨a18, a20, a21, a108, a109, a24, a110, a111, a27, a29, a34, an⟩ := h
  refine ⟨?_, ?_, ?_, ?_, ?_, ?_, ?_, ?_, ?_, ?_, ?_, ?_⟩
  all_goals (simp (disch := first | decide | omega) only [upC_e, upC_n, mU_e, mU_n]; first | done | assumption)
theorem fQ_s {M : mM} {x : Int} : fQ M (upC M 97 (mU (M 97) 27 x)) := ⟨fun k a _ _ _ _ _ _ => upC_n a, fun i _ _ _ a _ => by rw [upC_e, mU_n a]⟩
/-- a frame that holds nothing is taken off, its item written -/
theorem RSf_pop {M : mM} {w x o : Int} {G : FR} {L : List (Int × Int)} {s : Int} (hx : x = 14 ∨ x = 45) (ho : o = opk x) (h : RSf M w ((x, []) :: G) L s) : RSf (upC (upC (upC M 97 (mU (mU (mU (M 97) 21 G.length) 20 (dep G)) 34 ((L.length : Int) + 1))) 116 (mU (M 116) L.length o)) 117 (mU (M 117) L.length 0)) w G (L ++ em [x]) s := by
  obtain ⟨a18, a20, a21, a108, a109, a24, a110, a111, a27, a29, a34, an⟩ := h
  refine ⟨?_, ?_, ?_, ?_, ?_, ?_, ?_, ?_, ?_, ?_, ?_, ?_⟩
  · simp (disch := first | decide | omega) only [upC_e, upC_n, mU_e, mU_n]
    exact a18
  · simp (disch := first | decide | omega) only [upC_e, upC_n, mU_e, mU_n]
  · simp (disch := first | decide | omega) only [upC_e, upC_n, mU_e, mU_n]
  · simp (disch := first | decide | omega) only [upC_e, upC_n, mU_e, mU_n]
    exact a108.2
  · simp (disch := first | decide | omega) only [upC_e, upC_n, mU_e, mU_n]
    exact a109.2
  · simp (disch := first | decide | omega) only [upC_e, upC_n, mU_e, mU_n]
    exact a24
  · simp (disch := first | decide | omega) only [upC_e, upC_n, mU_e, mU_n]
    exact a110
  · simp (disch := first | decide | omega) only [upC_e, upC_n, mU_e, mU_n]
    exact a111
  · simp (disch := first | decide | omega) only [upC_e, upC_n, mU_e, mU_n]
    exact a27
  · simp (disch := first | decide | omega) only [upC_e, upC_n, mU_e, mU_n]
    exact a29
  · simp (disch := first | decide | omega) only [upC_e, upC_n, mU_e, mU_n]
    rw [List.length_append]
    show (L.length : Int) + 1 = ((L.length + 1 : Nat) : Int)
    omega
  · simp (disch := first | decide | omega) only [upC_e, upC_n, mU_e, mU_n]
    rw [ho]
    exact nco_snE rfl (by rcases hx with rfl | rfl <;> decide) an
set_option maxHeartbeats 1000000 in
theorem r_oneIsOver {d : Nat} {K : mQ} {w : Int} {tn : Bool} (hw : 0 ≤ w ∧ w ≤ 3) : ∀ (F : FR) (M : mM) (L : List (Int × Int)) (s : Int) (lv : mL), okF tn F → arB tn (topF F) → dep F ≤ 8 → RSf M w F L s → L.length + F.length ≤ 350 → lv 0 = some (vr 97) → (∀ M', fQ M M' → RSf M' w (dM F) (L ++ mns (nM F)) 2 → K none M') → rn (d + 1) 192 K 0 lv [] M
  | [], M, L, s, lv, hF, ha, hd, h, hL, g0, hK => hF.elim
  | [(x, ws)], M, L, s, lv, hF, ha, hd, h, hL, g0, hK => by
    have hx := hF.1
    have e1 : dM [(x, ws)] = [(x, ws)] := by
      show (if x = 45 then dM [] else [(x, ws)]) = _
      rw [if_neg (by omega)]
    have e2 : nM [(x, ws)] = 0 := by
      show (if x = 45 then nM [] + 1 else 0) = _
      rw [if_neg (by omega)]
    rw [e1, e2] at hK
    have wt := fun (d : Nat) (K : mQ) => r_topF (d := d) (K := K) (by decide) h
    have hc : frC w x = 1 ∨ frC w x = 2 := by
      unfold frC
      rw [if_pos hx]
      split <;> omega
    have hr := hK _ fQ_s (by rw [show L ++ mns 0 = L from List.append_nil L]; exact RSf_s h)
    clear hK
    rw [w192_0]
    rcases hc with hc | hc
    · simp (disch := first | decide | omega) only [b192, w192_1, w192_4, w192_6, w192_9, w192_10, w192_11, w192_14, w192_15, w192_16, w192_19, w192_20, w192_21, w192_24, w192_25, w192_26, w192_29, w192_30, w192_33, w192_34, w192_37, w192_40, w192_41, w192_42, w192_45, tc97, tr97_0, tr97_1, tr97_2, tr97_6, tr97_7, tr97_8, tr97_9, tr97_10, tr97_11, tr97_12, tr97_22, tr97_23, tr97_25, tr97_26, tr97_30, tr97_31, tr97_32, tr97_33, tr97_35, tr97_36, tr97_37, tr97_38, tr97_40, tr97_41, tr97_42, tr97_43, tr97_44, tr97_45, tr97_46, tr97_47, tr97_48, tr97_49, tr97_50, tr97_51, tr97_52, tr97_53, tr97_54, tr97_55, tr97_56, tr97_57, tr97_58, tr97_59, tr97_60, tr97_61, ta98, tn98, ta99, tn99, ta100, tn100, ta101, tn101, ta102, tn102, ta103, tn103, ta104, tn104, ta105, tn105, ta106, tn106, ta107, tn107, ta108, tn108, ta109, tn109, ta110, tn110, ta111, tn111, ta112, tn112, ta113, tn113, ta114, tn114, ta115, tn115, ta116, tn116, ta117, tn117, ta118, tn118, ta119, tn119, ta120, tn120, ta121, tn121, ta122, tn122, ta123, tn123, ta124, tn124, ta125, tn125, ta126, tn126, ta127, tn127, ta128, tn128, ta129, tn129, ta130, tn130, ta131, tn131, ta132, tn132, ta133, tn133, ta134, tn134, ta135, tn135, ta136, tn136, ta137, tn137, ta138, tn138, ta139, tn139, ta140, tn140, ta141, tn141, xLoad_i, xLoad_l, xLoad_r, xInc_s, xBr_t, xBr_f, xNz_s, xGf_s, xPf_s, xPz_s, xLd_2, xLd_7, xLd_10, xLdb_3, xLdb_5, xLdb_9, xLdl_4, xLdr_6, xSt_2, xStl_4, xStb_3, xStb_5, xLen_s, xLen_10, xCpy_s, xIv_s, xMx_s, mCont_s, mCont_n, w32_s, w64_s, upC_e, upC_n, upC_u, upC_c, mEn_c, mEn_n, mcw_i, mcw_l, mcw_r, mcat_n, mcat_i, mcat_l, mcat_r, xlong_i, xlong_l, xlong_r, xlong_n, s1_at, s2_at, ↓reduceIte, reduceCtorEq, and_self, true_and, and_true, false_and, and_false, Bool.false_eq_true, ne_eq, not_true_eq_false, not_false_eq_true, or_true, true_or, or_false, false_or, or_self, Int.tmod_eq_emod_of_nonneg, Int.tdiv_eq_ediv_of_nonneg, Classical.not_not, xSw, rOK, b2i_ok, b2i_0, b2i_1, Nat.reduceAdd, Nat.reduceSub, Nat.reduceMul, Nat.reduceEqDiff, Nat.reduceLeDiff, Nat.reduceLT, Int.reduceAdd, Int.reduceSub, Int.reduceMul, Int.reduceNeg, Int.reduceEq, Int.reduceNe, Int.reduceLT, Int.reduceLE, Int.reduceToNat, Int.reduceTDiv, Int.reduceTMod, b2i_em, g0, wt, hc]
      exact hr
    · simp (disch := first | decide | omega) only [b192, w192_1, w192_4, w192_6, w192_9, w192_10, w192_11, w192_14, w192_15, w192_16, w192_19, w192_20, w192_21, w192_24, w192_25, w192_26, w192_29, w192_30, w192_33, w192_34, w192_37, w192_40, w192_41, w192_42, w192_45, tc97, tr97_0, tr97_1, tr97_2, tr97_6, tr97_7, tr97_8, tr97_9, tr97_10, tr97_11, tr97_12, tr97_22, tr97_23, tr97_25, tr97_26, tr97_30, tr97_31, tr97_32, tr97_33, tr97_35, tr97_36, tr97_37, tr97_38, tr97_40, tr97_41, tr97_42, tr97_43, tr97_44, tr97_45, tr97_46, tr97_47, tr97_48, tr97_49, tr97_50, tr97_51, tr97_52, tr97_53, tr97_54, tr97_55, tr97_56, tr97_57, tr97_58, tr97_59, tr97_60, tr97_61, ta98, tn98, ta99, tn99, ta100, tn100, ta101, tn101, ta102, tn102, ta103, tn103, ta104, tn104, ta105, tn105, ta106, tn106, ta107, tn107, ta108, tn108, ta109, tn109, ta110, tn110, ta111, tn111, ta112, tn112, ta113, tn113, ta114, tn114, ta115, tn115, ta116, tn116, ta117, tn117, ta118, tn118, ta119, tn119, ta120, tn120, ta121, tn121, ta122, tn122, ta123, tn123, ta124, tn124, ta125, tn125, ta126, tn126, ta127, tn127, ta128, tn128, ta129, tn129, ta130, tn130, ta131, tn131, ta132, tn132, ta133, tn133, ta134, tn134, ta135, tn135, ta136, tn136, ta137, tn137, ta138, tn138, ta139, tn139, ta140, tn140, ta141, tn141, xLoad_i, xLoad_l, xLoad_r, xInc_s, xBr_t, xBr_f, xNz_s, xGf_s, xPf_s, xPz_s, xLd_2, xLd_7, xLd_10, xLdb_3, xLdb_5, xLdb_9, xLdl_4, xLdr_6, xSt_2, xStl_4, xStb_3, xStb_5, xLen_s, xLen_10, xCpy_s, xIv_s, xMx_s, mCont_s, mCont_n, w32_s, w64_s, upC_e, upC_n, upC_u, upC_c, mEn_c, mEn_n, mcw_i, mcw_l, mcw_r, mcat_n, mcat_i, mcat_l, mcat_r, xlong_i, xlong_l, xlong_r, xlong_n, s1_at, s2_at, ↓reduceIte, reduceCtorEq, and_self, true_and, and_true, false_and, and_false, Bool.false_eq_true, ne_eq, not_true_eq_false, not_false_eq_true, or_true, true_or, or_false, false_or, or_self, Int.tmod_eq_emod_of_nonneg, Int.tdiv_eq_ediv_of_nonneg, Classical.not_not, xSw, rOK, b2i_ok, b2i_0, b2i_1, Nat.reduceAdd, Nat.reduceSub, Nat.reduceMul, Nat.reduceEqDiff, Nat.reduceLeDiff, Nat.reduceLT, Int.reduceAdd, Int.reduceSub, Int.reduceMul, Int.reduceNeg, Int.reduceEq, Int.reduceNe, Int.reduceLT, Int.reduceLE, Int.reduceToNat, Int.reduceTDiv, Int.reduceTMod, b2i_em, g0, wt, hc]
      exact hr
  | (x, ws) :: (y, us) :: G, M, L, s, lv, hF, ha, hd, h, hL, g0, hK => by
    have hl := (len_F _ hF).1
    rw [List.length_cons] at hl hL
    have wt := fun (d : Nat) (K : mQ) => r_topF (d := d) (K := K) (show ((y, us) :: G).length ≤ 20 by omega) h
    by_cases c : x = 45
    · subst c
      have hs : ws = [] ∧ arB tn y := by
        have h2 := hF.2
        unfold isR at h2
        rcases h2 with q | q | q | q
        · have := q.1; omega
        · exfalso; rcases q.1 with q1 | q1 <;> omega
        · have := q.1; omega
        · exact q.2
      obtain ⟨rfl, hy⟩ := hs
      have hdp : dep ((45, []) :: (y, us) :: G) = dep ((y, us) :: G) + 1 := by
        rw [dep_c, if_pos (by decide)]; omega
      have e1 : dM ((45, []) :: (y, us) :: G) = dM ((y, us) :: G) := rfl
      have e2 : nM ((45, []) :: (y, us) :: G) = nM ((y, us) :: G) + 1 := rfl
      rw [e1, e2] at hK
      have h20 := h.2.1
      have h21 := h.2.2.1
      have h34 := h.2.2.2.2.2.2.2.2.2.2.1
      rw [hdp] at h20
      rw [List.length_cons] at h21
      have h20' : M 97 20 = (dep ((y, us) :: G) : Int) + 1 := by rw [h20]; omega
      have h21' : M 97 21 = (((y, us) :: G).length : Int) + 1 := by rw [h21]; omega
      have s0 : (dep ((y, us) :: G) : Int) + 1 - 1 = dep ((y, us) :: G) := by omega
      have s1 : (((y, us) :: G).length : Int) + 1 - 1 = ((y, us) :: G).length := by omega
      have hp := RSf_pop (o := 402) (Or.inr rfl) rfl h
      have wt7 : frC w 45 = 7 := rfl
      rw [wt7] at wt
      have hll : (L ++ em [45]).length = L.length + 1 := by
        rw [List.length_append]
        rfl
      have ih := fun lv2 g0 hK2 => r_oneIsOver (d := d) (K := K) hw ((y, us) :: G) _ (L ++ em [45]) s lv2 hF.1 hy (by omega) hp (by rw [hll]; omega) g0 hK2
      have hK' : ∀ M', fQ (upC (upC (upC M 97 (mU (mU (mU (M 97) 21 ((y, us) :: G).length) 20 (dep ((y, us) :: G))) 34 ((L.length : Int) + 1))) 116 (mU (M 116) L.length 402)) 117 (mU (M 117) L.length 0)) M' → RSf M' w (dM ((y, us) :: G)) ((L ++ em [45]) ++ mns (nM ((y, us) :: G))) 2 → K none M' := fun M' f hM' => by
        refine hK M' (fQ_t ?_ f) ?_
        · refine ⟨fun k a1 a2 a3 a4 a5 a6 a7 => ?_, fun i a1 a2 a3 a4 a5 => ?_⟩
          · simp (disch := first | decide | omega) only [upC_e, upC_n, mU_e, mU_n]
          · simp (disch := first | decide | omega) only [upC_e, upC_n, mU_e, mU_n]
        · rw [List.append_assoc] at hM'
          exact hM'
      clear hK
      generalize ((y, us) :: G).length = z1 at *
      generalize dep ((y, us) :: G) = z2 at *
      rw [w192_0]
      simp (disch := first | decide | omega) only [b192, w192_1, w192_4, w192_6, w192_9, w192_10, w192_11, w192_14, w192_15, w192_16, w192_19, w192_20, w192_21, w192_24, w192_25, w192_26, w192_29, w192_30, w192_33, w192_34, w192_37, w192_40, w192_41, w192_42, w192_45, tc97, tr97_0, tr97_1, tr97_2, tr97_6, tr97_7, tr97_8, tr97_9, tr97_10, tr97_11, tr97_12, tr97_22, tr97_23, tr97_25, tr97_26, tr97_30, tr97_31, tr97_32, tr97_33, tr97_35, tr97_36, tr97_37, tr97_38, tr97_40, tr97_41, tr97_42, tr97_43, tr97_44, tr97_45, tr97_46, tr97_47, tr97_48, tr97_49, tr97_50, tr97_51, tr97_52, tr97_53, tr97_54, tr97_55, tr97_56, tr97_57, tr97_58, tr97_59, tr97_60, tr97_61, ta98, tn98, ta99, tn99, ta100, tn100, ta101, tn101, ta102, tn102, ta103, tn103, ta104, tn104, ta105, tn105, ta106, tn106, ta107, tn107, ta108, tn108, ta109, tn109, ta110, tn110, ta111, tn111, ta112, tn112, ta113, tn113, ta114, tn114, ta115, tn115, ta116, tn116, ta117, tn117, ta118, tn118, ta119, tn119, ta120, tn120, ta121, tn121, ta122, tn122, ta123, tn123, ta124, tn124, ta125, tn125, ta126, tn126, ta127, tn127, ta128, tn128, ta129, tn129, ta130, tn130, ta131, tn131, ta132, tn132, ta133, tn133, ta134, tn134, ta135, tn135, ta136, tn136, ta137, tn137, ta138, tn138, ta139, tn139, ta140, tn140, ta141, tn141, xLoad_i, xLoad_l, xLoad_r, xInc_s, xBr_t, xBr_f, xNz_s, xGf_s, xPf_s, xPz_s, xLd_2, xLd_7, xLd_10, xLdb_3, xLdb_5, xLdb_9, xLdl_4, xLdr_6, xSt_2, xStl_4, xStb_3, xStb_5, xLen_s, xLen_10, xCpy_s, xIv_s, xMx_s, mCont_s, mCont_n, w32_s, w64_s, upC_e, upC_n, upC_u, upC_c, mEn_c, mEn_n, mcw_i, mcw_l, mcw_r, mcat_n, mcat_i, mcat_l, mcat_r, xlong_i, xlong_l, xlong_r, xlong_n, s1_at, s2_at, ↓reduceIte, reduceCtorEq, and_self, true_and, and_true, false_and, and_false, Bool.false_eq_true, ne_eq, not_true_eq_false, not_false_eq_true, or_true, true_or, or_false, false_or, or_self, Int.tmod_eq_emod_of_nonneg, Int.tdiv_eq_ediv_of_nonneg, Classical.not_not, xSw, rOK, b2i_ok, b2i_0, b2i_1, Nat.reduceAdd, Nat.reduceSub, Nat.reduceMul, Nat.reduceEqDiff, Nat.reduceLeDiff, Nat.reduceLT, Int.reduceAdd, Int.reduceSub, Int.reduceMul, Int.reduceNeg, Int.reduceEq, Int.reduceNe, Int.reduceLT, Int.reduceLE, Int.reduceToNat, Int.reduceTDiv, Int.reduceTMod, b2i_em, g0, wt, h20', h21', s0, s1, mU_n]
      rw [r_emits (s := L.length) (by simp (disch := first | decide | omega) only [upC_e, upC_n, mU_e, mU_n]; exact h34) ⟨by omega, by omega⟩]
      simp (disch := first | decide | omega) only [b192, w192_1, w192_4, w192_6, w192_9, w192_10, w192_11, w192_14, w192_15, w192_16, w192_19, w192_20, w192_21, w192_24, w192_25, w192_26, w192_29, w192_30, w192_33, w192_34, w192_37, w192_40, w192_41, w192_42, w192_45, tc97, tr97_0, tr97_1, tr97_2, tr97_6, tr97_7, tr97_8, tr97_9, tr97_10, tr97_11, tr97_12, tr97_22, tr97_23, tr97_25, tr97_26, tr97_30, tr97_31, tr97_32, tr97_33, tr97_35, tr97_36, tr97_37, tr97_38, tr97_40, tr97_41, tr97_42, tr97_43, tr97_44, tr97_45, tr97_46, tr97_47, tr97_48, tr97_49, tr97_50, tr97_51, tr97_52, tr97_53, tr97_54, tr97_55, tr97_56, tr97_57, tr97_58, tr97_59, tr97_60, tr97_61, ta98, tn98, ta99, tn99, ta100, tn100, ta101, tn101, ta102, tn102, ta103, tn103, ta104, tn104, ta105, tn105, ta106, tn106, ta107, tn107, ta108, tn108, ta109, tn109, ta110, tn110, ta111, tn111, ta112, tn112, ta113, tn113, ta114, tn114, ta115, tn115, ta116, tn116, ta117, tn117, ta118, tn118, ta119, tn119, ta120, tn120, ta121, tn121, ta122, tn122, ta123, tn123, ta124, tn124, ta125, tn125, ta126, tn126, ta127, tn127, ta128, tn128, ta129, tn129, ta130, tn130, ta131, tn131, ta132, tn132, ta133, tn133, ta134, tn134, ta135, tn135, ta136, tn136, ta137, tn137, ta138, tn138, ta139, tn139, ta140, tn140, ta141, tn141, xLoad_i, xLoad_l, xLoad_r, xInc_s, xBr_t, xBr_f, xNz_s, xGf_s, xPf_s, xPz_s, xLd_2, xLd_7, xLd_10, xLdb_3, xLdb_5, xLdb_9, xLdl_4, xLdr_6, xSt_2, xStl_4, xStb_3, xStb_5, xLen_s, xLen_10, xCpy_s, xIv_s, xMx_s, mCont_s, mCont_n, w32_s, w64_s, upC_e, upC_n, upC_u, upC_c, mEn_c, mEn_n, mcw_i, mcw_l, mcw_r, mcat_n, mcat_i, mcat_l, mcat_r, xlong_i, xlong_l, xlong_r, xlong_n, s1_at, s2_at, ↓reduceIte, reduceCtorEq, and_self, true_and, and_true, false_and, and_false, Bool.false_eq_true, ne_eq, not_true_eq_false, not_false_eq_true, or_true, true_or, or_false, false_or, or_self, Int.tmod_eq_emod_of_nonneg, Int.tdiv_eq_ediv_of_nonneg, Classical.not_not, xSw, rOK, b2i_ok, b2i_0, b2i_1, Nat.reduceAdd, Nat.reduceSub, Nat.reduceMul, Nat.reduceEqDiff, Nat.reduceLeDiff, Nat.reduceLT, Int.reduceAdd, Int.reduceSub, Int.reduceMul, Int.reduceNeg, Int.reduceEq, Int.reduceNe, Int.reduceLT, Int.reduceLE, Int.reduceToNat, Int.reduceTDiv, Int.reduceTMod, b2i_em, g0]
      refine ih _ ?_ hK'
      simp [s1_at, s2_at, mEn_c, mcw_r, mcw_i, mcw_l, xlong_i, xlong_r, xlong_l, xlong_n, g0]
    · have e1 : dM ((x, ws) :: (y, us) :: G) = (x, ws) :: (y, us) :: G := by
        show (if x = 45 then dM ((y, us) :: G) else _) = _
        rw [if_neg c]
      have e2 : nM ((x, ws) :: (y, us) :: G) = 0 := by
        show (if x = 45 then nM ((y, us) :: G) + 1 else 0) = _
        rw [if_neg c]
      rw [e1, e2] at hK
      have hc : ¬ frC w x = 7 := by
        unfold frC
        repeat' split
        all_goals omega
      have hr := hK _ fQ_s (by rw [show L ++ mns 0 = L from List.append_nil L]; exact RSf_s h)
      clear hK
      rw [w192_0]
      simp (disch := first | decide | omega) only [b192, w192_1, w192_4, w192_6, w192_9, w192_10, w192_11, w192_14, w192_15, w192_16, w192_19, w192_20, w192_21, w192_24, w192_25, w192_26, w192_29, w192_30, w192_33, w192_34, w192_37, w192_40, w192_41, w192_42, w192_45, tc97, tr97_0, tr97_1, tr97_2, tr97_6, tr97_7, tr97_8, tr97_9, tr97_10, tr97_11, tr97_12, tr97_22, tr97_23, tr97_25, tr97_26, tr97_30, tr97_31, tr97_32, tr97_33, tr97_35, tr97_36, tr97_37, tr97_38, tr97_40, tr97_41, tr97_42, tr97_43, tr97_44, tr97_45, tr97_46, tr97_47, tr97_48, tr97_49, tr97_50, tr97_51, tr97_52, tr97_53, tr97_54, tr97_55, tr97_56, tr97_57, tr97_58, tr97_59, tr97_60, tr97_61, ta98, tn98, ta99, tn99, ta100, tn100, ta101, tn101, ta102, tn102, ta103, tn103, ta104, tn104, ta105, tn105, ta106, tn106, ta107, tn107, ta108, tn108, ta109, tn109, ta110, tn110, ta111, tn111, ta112, tn112, ta113, tn113, ta114, tn114, ta115, tn115, ta116, tn116, ta117, tn117, ta118, tn118, ta119, tn119, ta120, tn120, ta121, tn121, ta122, tn122, ta123, tn123, ta124, tn124, ta125, tn125, ta126, tn126, ta127, tn127, ta128, tn128, ta129, tn129, ta130, tn130, ta131, tn131, ta132, tn132, ta133, tn133, ta134, tn134, ta135, tn135, ta136, tn136, ta137, tn137, ta138, tn138, ta139, tn139, ta140, tn140, ta141, tn141, xLoad_i, xLoad_l, xLoad_r, xInc_s, xBr_t, xBr_f, xNz_s, xGf_s, xPf_s, xPz_s, xLd_2, xLd_7, xLd_10, xLdb_3, xLdb_5, xLdb_9, xLdl_4, xLdr_6, xSt_2, xStl_4, xStb_3, xStb_5, xLen_s, xLen_10, xCpy_s, xIv_s, xMx_s, mCont_s, mCont_n, w32_s, w64_s, upC_e, upC_n, upC_u, upC_c, mEn_c, mEn_n, mcw_i, mcw_l, mcw_r, mcat_n, mcat_i, mcat_l, mcat_r, xlong_i, xlong_l, xlong_r, xlong_n, s1_at, s2_at, ↓reduceIte, reduceCtorEq, and_self, true_and, and_true, false_and, and_false, Bool.false_eq_true, ne_eq, not_true_eq_false, not_false_eq_true, or_true, true_or, or_false, false_or, or_self, Int.tmod_eq_emod_of_nonneg, Int.tdiv_eq_ediv_of_nonneg, Classical.not_not, xSw, rOK, b2i_ok, b2i_0, b2i_1, Nat.reduceAdd, Nat.reduceSub, Nat.reduceMul, Nat.reduceEqDiff, Nat.reduceLeDiff, Nat.reduceLT, Int.reduceAdd, Int.reduceSub, Int.reduceMul, Int.reduceNeg, Int.reduceEq, Int.reduceNe, Int.reduceLT, Int.reduceLE, Int.reduceToNat, Int.reduceTDiv, Int.reduceTMod, b2i_em, g0, wt, hc]
      exact hr
set_option maxHeartbeats 1000000 in
theorem r_askIsOver {d : Nat} {K : mQ} {w : Int} {bs : List Int} : ∀ (n : Nat) (M : mM) (L : List (Int × Int)) (s : Int) (lv : mL), n ≤ 8 → RSf M w (nts n [(1, bs)]) L s → L.length + n ≤ 350 → lv 0 = some (vr 97) → (∀ M', fQ M M' → RSf M' w [(1, bs)] (L ++ em (List.replicate n 14)) 3 → K none M') → rn (d + 1) 193 K 0 lv [] M
  | 0, M, L, s, lv, hn, h, hL, g0, hK => by
    have wt := fun (d : Nat) (K : mQ) => r_topF (d := d) (K := K) (by decide) (show RSf M w [(1, bs)] L s from h)
    have hc : ¬ frC w 1 = 3 := by
      unfold frC
      repeat' split
      all_goals omega
    have hr := hK _ fQ_s (by rw [show L ++ em (List.replicate 0 14) = L from List.append_nil L]; exact RSf_s h)
    clear hK
    rw [w193_0]
    simp (disch := first | decide | omega) only [b193, w193_1, w193_4, w193_5, w193_8, w193_9, w193_10, w193_13, w193_14, w193_15, w193_18, w193_19, w193_20, w193_23, w193_24, w193_25, w193_28, w193_29, w193_32, w193_33, w193_36, w193_39, w193_40, w193_41, w193_44, tc97, tr97_0, tr97_1, tr97_2, tr97_6, tr97_7, tr97_8, tr97_9, tr97_10, tr97_11, tr97_12, tr97_22, tr97_23, tr97_25, tr97_26, tr97_30, tr97_31, tr97_32, tr97_33, tr97_35, tr97_36, tr97_37, tr97_38, tr97_40, tr97_41, tr97_42, tr97_43, tr97_44, tr97_45, tr97_46, tr97_47, tr97_48, tr97_49, tr97_50, tr97_51, tr97_52, tr97_53, tr97_54, tr97_55, tr97_56, tr97_57, tr97_58, tr97_59, tr97_60, tr97_61, ta98, tn98, ta99, tn99, ta100, tn100, ta101, tn101, ta102, tn102, ta103, tn103, ta104, tn104, ta105, tn105, ta106, tn106, ta107, tn107, ta108, tn108, ta109, tn109, ta110, tn110, ta111, tn111, ta112, tn112, ta113, tn113, ta114, tn114, ta115, tn115, ta116, tn116, ta117, tn117, ta118, tn118, ta119, tn119, ta120, tn120, ta121, tn121, ta122, tn122, ta123, tn123, ta124, tn124, ta125, tn125, ta126, tn126, ta127, tn127, ta128, tn128, ta129, tn129, ta130, tn130, ta131, tn131, ta132, tn132, ta133, tn133, ta134, tn134, ta135, tn135, ta136, tn136, ta137, tn137, ta138, tn138, ta139, tn139, ta140, tn140, ta141, tn141, xLoad_i, xLoad_l, xLoad_r, xInc_s, xBr_t, xBr_f, xNz_s, xGf_s, xPf_s, xPz_s, xLd_2, xLd_7, xLd_10, xLdb_3, xLdb_5, xLdb_9, xLdl_4, xLdr_6, xSt_2, xStl_4, xStb_3, xStb_5, xLen_s, xLen_10, xCpy_s, xIv_s, xMx_s, mCont_s, mCont_n, w32_s, w64_s, upC_e, upC_n, upC_u, upC_c, mEn_c, mEn_n, mcw_i, mcw_l, mcw_r, mcat_n, mcat_i, mcat_l, mcat_r, xlong_i, xlong_l, xlong_r, xlong_n, s1_at, s2_at, ↓reduceIte, reduceCtorEq, and_self, true_and, and_true, false_and, and_false, Bool.false_eq_true, ne_eq, not_true_eq_false, not_false_eq_true, or_true, true_or, or_false, false_or, or_self, Int.tmod_eq_emod_of_nonneg, Int.tdiv_eq_ediv_of_nonneg, Classical.not_not, xSw, rOK, b2i_ok, b2i_0, b2i_1, Nat.reduceAdd, Nat.reduceSub, Nat.reduceMul, Nat.reduceEqDiff, Nat.reduceLeDiff, Nat.reduceLT, Int.reduceAdd, Int.reduceSub, Int.reduceMul, Int.reduceNeg, Int.reduceEq, Int.reduceNe, Int.reduceLT, Int.reduceLE, Int.reduceToNat, Int.reduceTDiv, Int.reduceTMod, b2i_em, g0, wt, hc]
    exact hr
  | n + 1, M, L, s, lv, hn, h, hL, g0, hK => by
    replace h : RSf M w ((14, []) :: nts n [(1, bs)]) L s := h
    obtain ⟨G, hG⟩ : ∃ G, nts n [(1, bs)] = G := ⟨_, rfl⟩
    have hGl : G.length = n + 1 := by
      rw [← hG]
      unfold nts
      rw [List.length_append, List.length_replicate]
      rfl
    have hGd : dep G = n := by
      rw [← hG]
      clear hGl hG h hK hL
      induction n with
      | zero => rfl
      | succ n ih =>
        show dep ((14, []) :: nts n [(1, bs)]) = _
        rw [dep_c, if_pos (by decide), ih (by omega)]
        omega
    rw [hG] at h
    have wt := fun (d : Nat) (K : mQ) => r_topF (d := d) (K := K) (show G.length ≤ 20 by omega) h
    have wt3 : frC w 14 = 3 := rfl
    rw [wt3] at wt
    have hdp : dep ((14, []) :: G) = dep G + 1 := by
      rw [dep_c, if_pos (by decide)]; omega
    have h20 := h.2.1
    have h21 := h.2.2.1
    have h34 := h.2.2.2.2.2.2.2.2.2.2.1
    rw [hdp] at h20
    rw [List.length_cons] at h21
    have h20' : M 97 20 = (dep G : Int) + 1 := by rw [h20]; omega
    have h21' : M 97 21 = (G.length : Int) + 1 := by rw [h21]; omega
    have s0 : (dep G : Int) + 1 - 1 = dep G := by omega
    have s1 : (G.length : Int) + 1 - 1 = G.length := by omega
    have hp := RSf_pop (o := 405) (Or.inl rfl) rfl h
    have hll : (L ++ em [14]).length = L.length + 1 := by
      rw [List.length_append]
      rfl
    have hp' := hp
    rw [← hG] at hp'
    have ih := fun lv2 g0 hK2 => r_askIsOver (d := d) (K := K) n _ (L ++ em [14]) s lv2 (by omega) hp' (by rw [hll]; omega) g0 hK2
    rw [hG] at ih
    have hK' : ∀ M', fQ (upC (upC (upC M 97 (mU (mU (mU (M 97) 21 G.length) 20 (dep G)) 34 ((L.length : Int) + 1))) 116 (mU (M 116) L.length 405)) 117 (mU (M 117) L.length 0)) M' → RSf M' w [(1, bs)] ((L ++ em [14]) ++ em (List.replicate n 14)) 3 → K none M' := fun M' f hM' => by
      refine hK M' (fQ_t ?_ f) ?_
      · refine ⟨fun k a1 a2 a3 a4 a5 a6 a7 => ?_, fun i a1 a2 a3 a4 a5 => ?_⟩
        · simp (disch := first | decide | omega) only [upC_e, upC_n, mU_e, mU_n]
        · simp (disch := first | decide | omega) only [upC_e, upC_n, mU_e, mU_n]
      · rw [List.append_assoc] at hM'
        exact hM'
    clear hK hp hp'
    rw [w193_0]
    simp (disch := first | decide | omega) only [b193, w193_1, w193_4, w193_5, w193_8, w193_9, w193_10, w193_13, w193_14, w193_15, w193_18, w193_19, w193_20, w193_23, w193_24, w193_25, w193_28, w193_29, w193_32, w193_33, w193_36, w193_39, w193_40, w193_41, w193_44, tc97, tr97_0, tr97_1, tr97_2, tr97_6, tr97_7, tr97_8, tr97_9, tr97_10, tr97_11, tr97_12, tr97_22, tr97_23, tr97_25, tr97_26, tr97_30, tr97_31, tr97_32, tr97_33, tr97_35, tr97_36, tr97_37, tr97_38, tr97_40, tr97_41, tr97_42, tr97_43, tr97_44, tr97_45, tr97_46, tr97_47, tr97_48, tr97_49, tr97_50, tr97_51, tr97_52, tr97_53, tr97_54, tr97_55, tr97_56, tr97_57, tr97_58, tr97_59, tr97_60, tr97_61, ta98, tn98, ta99, tn99, ta100, tn100, ta101, tn101, ta102, tn102, ta103, tn103, ta104, tn104, ta105, tn105, ta106, tn106, ta107, tn107, ta108, tn108, ta109, tn109, ta110, tn110, ta111, tn111, ta112, tn112, ta113, tn113, ta114, tn114, ta115, tn115, ta116, tn116, ta117, tn117, ta118, tn118, ta119, tn119, ta120, tn120, ta121, tn121, ta122, tn122, ta123, tn123, ta124, tn124, ta125, tn125, ta126, tn126, ta127, tn127, ta128, tn128, ta129, tn129, ta130, tn130, ta131, tn131, ta132, tn132, ta133, tn133, ta134, tn134, ta135, tn135, ta136, tn136, ta137, tn137, ta138, tn138, ta139, tn139, ta140, tn140, ta141, tn141, xLoad_i, xLoad_l, xLoad_r, xInc_s, xBr_t, xBr_f, xNz_s, xGf_s, xPf_s, xPz_s, xLd_2, xLd_7, xLd_10, xLdb_3, xLdb_5, xLdb_9, xLdl_4, xLdr_6, xSt_2, xStl_4, xStb_3, xStb_5, xLen_s, xLen_10, xCpy_s, xIv_s, xMx_s, mCont_s, mCont_n, w32_s, w64_s, upC_e, upC_n, upC_u, upC_c, mEn_c, mEn_n, mcw_i, mcw_l, mcw_r, mcat_n, mcat_i, mcat_l, mcat_r, xlong_i, xlong_l, xlong_r, xlong_n, s1_at, s2_at, ↓reduceIte, reduceCtorEq, and_self, true_and, and_true, false_and, and_false, Bool.false_eq_true, ne_eq, not_true_eq_false, not_false_eq_true, or_true, true_or, or_false, false_or, or_self, Int.tmod_eq_emod_of_nonneg, Int.tdiv_eq_ediv_of_nonneg, Classical.not_not, xSw, rOK, b2i_ok, b2i_0, b2i_1, Nat.reduceAdd, Nat.reduceSub, Nat.reduceMul, Nat.reduceEqDiff, Nat.reduceLeDiff, Nat.reduceLT, Int.reduceAdd, Int.reduceSub, Int.reduceMul, Int.reduceNeg, Int.reduceEq, Int.reduceNe, Int.reduceLT, Int.reduceLE, Int.reduceToNat, Int.reduceTDiv, Int.reduceTMod, b2i_em, g0, wt, h20', h21', s0, s1, mU_n]
    rw [r_emits (s := L.length) (by simp (disch := first | decide | omega) only [upC_e, upC_n, mU_e, mU_n]; exact h34) ⟨by omega, by omega⟩]
    simp (disch := first | decide | omega) only [b193, w193_1, w193_4, w193_5, w193_8, w193_9, w193_10, w193_13, w193_14, w193_15, w193_18, w193_19, w193_20, w193_23, w193_24, w193_25, w193_28, w193_29, w193_32, w193_33, w193_36, w193_39, w193_40, w193_41, w193_44, tc97, tr97_0, tr97_1, tr97_2, tr97_6, tr97_7, tr97_8, tr97_9, tr97_10, tr97_11, tr97_12, tr97_22, tr97_23, tr97_25, tr97_26, tr97_30, tr97_31, tr97_32, tr97_33, tr97_35, tr97_36, tr97_37, tr97_38, tr97_40, tr97_41, tr97_42, tr97_43, tr97_44, tr97_45, tr97_46, tr97_47, tr97_48, tr97_49, tr97_50, tr97_51, tr97_52, tr97_53, tr97_54, tr97_55, tr97_56, tr97_57, tr97_58, tr97_59, tr97_60, tr97_61, ta98, tn98, ta99, tn99, ta100, tn100, ta101, tn101, ta102, tn102, ta103, tn103, ta104, tn104, ta105, tn105, ta106, tn106, ta107, tn107, ta108, tn108, ta109, tn109, ta110, tn110, ta111, tn111, ta112, tn112, ta113, tn113, ta114, tn114, ta115, tn115, ta116, tn116, ta117, tn117, ta118, tn118, ta119, tn119, ta120, tn120, ta121, tn121, ta122, tn122, ta123, tn123, ta124, tn124, ta125, tn125, ta126, tn126, ta127, tn127, ta128, tn128, ta129, tn129, ta130, tn130, ta131, tn131, ta132, tn132, ta133, tn133, ta134, tn134, ta135, tn135, ta136, tn136, ta137, tn137, ta138, tn138, ta139, tn139, ta140, tn140, ta141, tn141, xLoad_i, xLoad_l, xLoad_r, xInc_s, xBr_t, xBr_f, xNz_s, xGf_s, xPf_s, xPz_s, xLd_2, xLd_7, xLd_10, xLdb_3, xLdb_5, xLdb_9, xLdl_4, xLdr_6, xSt_2, xStl_4, xStb_3, xStb_5, xLen_s, xLen_10, xCpy_s, xIv_s, xMx_s, mCont_s, mCont_n, w32_s, w64_s, upC_e, upC_n, upC_u, upC_c, mEn_c, mEn_n, mcw_i, mcw_l, mcw_r, mcat_n, mcat_i, mcat_l, mcat_r, xlong_i, xlong_l, xlong_r, xlong_n, s1_at, s2_at, ↓reduceIte, reduceCtorEq, and_self, true_and, and_true, false_and, and_false, Bool.false_eq_true, ne_eq, not_true_eq_false, not_false_eq_true, or_true, true_or, or_false, false_or, or_self, Int.tmod_eq_emod_of_nonneg, Int.tdiv_eq_ediv_of_nonneg, Classical.not_not, xSw, rOK, b2i_ok, b2i_0, b2i_1, Nat.reduceAdd, Nat.reduceSub, Nat.reduceMul, Nat.reduceEqDiff, Nat.reduceLeDiff, Nat.reduceLT, Int.reduceAdd, Int.reduceSub, Int.reduceMul, Int.reduceNeg, Int.reduceEq, Int.reduceNe, Int.reduceLT, Int.reduceLE, Int.reduceToNat, Int.reduceTDiv, Int.reduceTMod, b2i_em, g0]
    refine ih _ ?_ hK'
    simp [s1_at, s2_at, mEn_c, mcw_r, mcw_i, mcw_l, xlong_i, xlong_r, xlong_l, xlong_n, g0]
