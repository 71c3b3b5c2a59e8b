/-! text: the class joins -/
theorem fLw_of {t : Nat} {M M' : mM} (h : fRd t M M') : fLw t M M' := ⟨h.1, fun i a => h.2.1 i (by omega) (by omega), h.2.2⟩
theorem ngs_n : ∀ A : List Int, (∀ k ∈ A, k ≠ 45 ∧ k ≠ 14) → ngs A = 0
  | [], _ => rfl
  | k :: A, h => by
    have h1 := h k (List.mem_cons_self ..)
    have ih := ngs_n A (fun x hx => h x (List.mem_cons_of_mem _ hx))
    show (if k = 45 ∨ k = 14 then 1 else 0) + ngs A = 0
    rw [if_neg (fun e => e.elim h1.1 h1.2), ih]
    rfl
set_option maxHeartbeats 1000000 in
/-- join: what holds as tightly is written, the token waits -/
theorem c_join {tn : Bool} {d t : Nat} {M : mM} {K : mQ} {w i0 N k : Int} {F F' : FR} {L : List (Int × Int)} {aA aA' : Bool} {A B : List Int} (ht : t < 4) (hF : okF tn F) (hk : isWt k) (hCm : ∃ M0, CLs t M0 w i0 N F L false aA ∧ fLw t M0 M ∧ M 62 = M0 62 ∧ (∀ i, i ≤ 10 → M 61 i = M0 61 i) ∧ M (27 + 8 * t) 5 = M0 (27 + 8 * t) 5 ∧ M (27 + 8 * t + 4) = M0 (27 + 8 * t + 4)) (hN : N < 300) (hfl : fl F = A ++ B) (hA : ∀ k' ∈ A, isWt k' ∧ k' ≠ 39 ∧ rk k ≤ rk k') (hB : ∀ b R, B = b :: R → isWt b ∧ rk b < rk k) (hd : ngs A ≤ dep F ∧ dep F ≤ 8) (h11 : M 61 11 = b01 aA') (h12 : M 61 12 = cmF F') (e1 : fl F' = k :: B) (e2 : (dep F' : Int) = dep F - ngs A) (e3 : par F' = par F) (hK : ∀ M', fLw t M M' → CLs t M' w i0 (N + 1) F' (L ++ em A) true aA' → K (some (vi 0)) M') : mCall (d + 3) 62 [vr 61, vi k] M K := by
  obtain ⟨M0, hC0, hf0, z62, z61, z5, zc⟩ := hCm
  have hl1 := (len_F F hF).1
  have hl2 := fl_len F hF
  have hfll : (fl F).length = A.length + B.length := by rw [hfl, List.length_append]
  have hrk : rk k ≤ 7 := by
    unfold rk
    repeat' split
    all_goals omega
  have w := fun (d : Nat) (M : mM) (K : mQ) => c_rank (d := d) (M := M) (K := K) hk
  simp (disch := first | decide | omega) only [b62, w62_0, w62_1, w62_2, w62_5, w62_8, w62_9, w62_10, w62_13, w62_14, w62_15, w62_18, w62_19, tc61, tr61_2, tr61_6, ta62, tn62, xLoad_i, xLoad_l, xLoad_r, xInc_s, xBr_t, xBr_f, xNz_s, xGf_s, xPf_s, xPz_s, xLd_2, xLd_7, xLd_10, xLdb_3, xLdb_5, xLdb_9, xLdl_4, xLdr_6, xSt_2, xStl_4, xStb_3, xStb_5, xLen_s, xLen_10, xCpy_s, xIv_s, xMx_s, mCont_s, mCont_n, w32_s, w64_s, upC_e, upC_n, upC_u, upC_c, mEn_c, mEn_n, mcw_i, mcw_l, mcw_r, mcat_n, mcat_i, mcat_l, mcat_r, xlong_i, xlong_l, xlong_r, xlong_n, s1_at, s2_at, ↓reduceIte, reduceCtorEq, and_self, true_and, and_true, false_and, and_false, Bool.false_eq_true, ne_eq, not_true_eq_false, not_false_eq_true, or_true, true_or, or_false, false_or, or_self, Int.tmod_eq_emod_of_nonneg, Int.tdiv_eq_ediv_of_nonneg, Classical.not_not, xSw, rOK, b2i_ok, b2i_0, b2i_1, Nat.reduceAdd, Nat.reduceSub, Nat.reduceMul, Nat.reduceEqDiff, Nat.reduceLeDiff, Nat.reduceLT, Int.reduceAdd, Int.reduceSub, Int.reduceMul, Int.reduceNeg, Int.reduceEq, Int.reduceNe, Int.reduceLT, Int.reduceLE, Int.reduceToNat, Int.reduceTDiv, Int.reduceTMod, b2i_em, w]
  refine c_wdC (d := d) (K := mCont (rn (d + 2) 62 K) 8 _ []) ht hF hC0 z62 (fun i hi => z61 i (by omega)) z5 zc (by omega) hfl hA hrk hB (by omega) hd (fun M1 f1 b7 b8 b62 b5 bc => ?_)
  simp (disch := first | decide | omega) only [b62, w62_0, w62_1, w62_2, w62_5, w62_8, w62_9, w62_10, w62_13, w62_14, w62_15, w62_18, w62_19, tc61, tr61_2, tr61_6, ta62, tn62, xLoad_i, xLoad_l, xLoad_r, xInc_s, xBr_t, xBr_f, xNz_s, xGf_s, xPf_s, xPz_s, xLd_2, xLd_7, xLd_10, xLdb_3, xLdb_5, xLdb_9, xLdl_4, xLdr_6, xSt_2, xStl_4, xStb_3, xStb_5, xLen_s, xLen_10, xCpy_s, xIv_s, xMx_s, mCont_s, mCont_n, w32_s, w64_s, upC_e, upC_n, upC_u, upC_c, mEn_c, mEn_n, mcw_i, mcw_l, mcw_r, mcat_n, mcat_i, mcat_l, mcat_r, xlong_i, xlong_l, xlong_r, xlong_n, s1_at, s2_at, ↓reduceIte, reduceCtorEq, and_self, true_and, and_true, false_and, and_false, Bool.false_eq_true, ne_eq, not_true_eq_false, not_false_eq_true, or_true, true_or, or_false, false_or, or_self, Int.tmod_eq_emod_of_nonneg, Int.tdiv_eq_ediv_of_nonneg, Classical.not_not, xSw, rOK, b2i_ok, b2i_0, b2i_1, Nat.reduceAdd, Nat.reduceSub, Nat.reduceMul, Nat.reduceEqDiff, Nat.reduceLeDiff, Nat.reduceLT, Int.reduceAdd, Int.reduceSub, Int.reduceMul, Int.reduceNeg, Int.reduceEq, Int.reduceNe, Int.reduceLT, Int.reduceLE, Int.reduceToNat, Int.reduceTDiv, Int.reduceTMod, b2i_em]
  rw [c_push (h := (B.length : Int)) b7 ⟨by omega, by omega⟩]
  simp (disch := first | decide | omega) only [b62, w62_0, w62_1, w62_2, w62_5, w62_8, w62_9, w62_10, w62_13, w62_14, w62_15, w62_18, w62_19, tc61, tr61_2, tr61_6, ta62, tn62, xLoad_i, xLoad_l, xLoad_r, xInc_s, xBr_t, xBr_f, xNz_s, xGf_s, xPf_s, xPz_s, xLd_2, xLd_7, xLd_10, xLdb_3, xLdb_5, xLdb_9, xLdl_4, xLdr_6, xSt_2, xStl_4, xStb_3, xStb_5, xLen_s, xLen_10, xCpy_s, xIv_s, xMx_s, mCont_s, mCont_n, w32_s, w64_s, upC_e, upC_n, upC_u, upC_c, mEn_c, mEn_n, mcw_i, mcw_l, mcw_r, mcat_n, mcat_i, mcat_l, mcat_r, xlong_i, xlong_l, xlong_r, xlong_n, s1_at, s2_at, ↓reduceIte, reduceCtorEq, and_self, true_and, and_true, false_and, and_false, Bool.false_eq_true, ne_eq, not_true_eq_false, not_false_eq_true, or_true, true_or, or_false, false_or, or_self, Int.tmod_eq_emod_of_nonneg, Int.tdiv_eq_ediv_of_nonneg, Classical.not_not, xSw, rOK, b2i_ok, b2i_0, b2i_1, Nat.reduceAdd, Nat.reduceSub, Nat.reduceMul, Nat.reduceEqDiff, Nat.reduceLeDiff, Nat.reduceLT, Int.reduceAdd, Int.reduceSub, Int.reduceMul, Int.reduceNeg, Int.reduceEq, Int.reduceNe, Int.reduceLT, Int.reduceLE, Int.reduceToNat, Int.reduceTDiv, Int.reduceTMod, b2i_em]
  obtain ⟨g, Lc, h0, hL, a3, a4, as, a7, a8, a9, a10, a11, a12, a5, ac, ai, aN, aD⟩ := hC0
  have hAl : (em A).length = A.length := List.length_map _
  refine hK _ (fLw_t (fLw_of f1) ⟨fun k b1 b2 b3 b4 => ?_, fun i b1 => ?_, fun i b1 => ?_⟩) ⟨0, L ++ em A, fun _ => rfl, (List.append_nil _).symm, ?_, ?_, ?_, ?_, ?_, ?_, ?_, ?_, ?_, ?_, ?_, ai, ?_, ?_⟩
  any_goals (simp (disch := first | decide | omega) only [upC_e, upC_n, mU_e, mU_n]; done)
  · simp (disch := first | decide | omega) only [upC_e, upC_n, mU_e, mU_n]
    rw [f1.2.1 3 (by decide) (by decide), z61 3 (by decide)]; exact a3
  · simp (disch := first | decide | omega) only [upC_e, upC_n, mU_e, mU_n]
    rw [f1.2.1 4 (by decide) (by decide), z61 4 (by decide)]; exact a4
  · simp (disch := first | decide | omega) only [upC_e, upC_n, mU_e, mU_n]
    rw [e1]
    exact ⟨mU_e, (aSt_u (Int.le_refl _)).mpr b62⟩
  · simp (disch := first | decide | omega) only [upC_e, upC_n, mU_e, mU_n]
    rw [e1, List.length_cons]; omega
  · simp (disch := first | decide | omega) only [upC_e, upC_n, mU_e, mU_n]
    rw [b8]; omega
  · simp (disch := first | decide | omega) only [upC_e, upC_n, mU_e, mU_n]
    rw [f1.2.1 9 (by decide) (by decide), z61 9 (by decide), a9, e3]
  · simp (disch := first | decide | omega) only [upC_e, upC_n, mU_e, mU_n]
    rfl
  · simp (disch := first | decide | omega) only [upC_e, upC_n, mU_e, mU_n]
    rw [f1.2.1 11 (by decide) (by decide)]; exact h11
  · simp (disch := first | decide | omega) only [upC_e, upC_n, mU_e, mU_n]
    rw [f1.2.1 12 (by decide) (by decide)]; exact h12
  · simp (disch := first | decide | omega) only [upC_e, upC_n, mU_e, mU_n]
    exact b5
  · simp (disch := first | decide | omega) only [upC_e, upC_n, mU_e, mU_n]
    exact bc
  · rw [e1, List.length_cons, List.length_append, hAl]; omega
  · have := ngs_0 A
    omega
