/-! text: the class writes down, a law being read -/
theorem ngs_r (A : List Int) : ∀ g : Nat, ngs (List.replicate g 45 ++ A) = g + ngs A
  | 0 => by
    rw [List.replicate_zero, List.nil_append]
    omega
  | g + 1 => by
    have ih := ngs_r A g
    rw [List.replicate_succ, List.cons_append]
    show (if (45 : Int) = 45 ∨ (45 : Int) = 14 then 1 else 0) + ngs (List.replicate g 45 ++ A) = _
    rw [if_pos (by decide), ih]
    omega
set_option maxHeartbeats 1000000 in
theorem c_wdC {d t : Nat} {M0 M : mM} {K : mQ} {w i0 N least : Int} {F : FR} {L : List (Int × Int)} {aA : Bool} {A B : List Int} {tn : Bool} (ht : t < 4) (hF : okF tn F) (hC : CLs t M0 w i0 N F L false aA) (z62 : M 62 = M0 62) (z61 : ∀ i, i ≤ 9 → M 61 i = M0 61 i) (z5 : M (27 + 8 * t) 5 = M0 (27 + 8 * t) 5) (zc : M (27 + 8 * t + 4) = M0 (27 + 8 * t + 4)) (hN : N ≤ 300) (hfl : fl F = A ++ B) (hA : ∀ k ∈ A, isWt k ∧ k ≠ 39 ∧ least ≤ rk k) (h7 : least ≤ 7) (hB : ∀ b R, B = b :: R → isWt b ∧ rk b < least) (hBl : B.length ≤ 40) (hd : ngs A ≤ dep F ∧ dep F ≤ 8) (hK : ∀ M', fRd t M M' → M' 61 7 = B.length → M' 61 8 = dep F - ngs A → aSt (M' 62) B → M' (27 + 8 * t) 5 = i0 + (L ++ em A).length → vAt (M' (27 + 8 * t + 4)) i0 ((L ++ em A).map enc) → K none M') : mCall (d + 2) 64 [vr 61, vi least] M K := by
  obtain ⟨g, Lc, h0, hL, a3, a4, as, a7, a8, a9, a10, a11, a12, a5, ac, ai, aN, aD⟩ := hC
  rw [← z61 3 (by decide)] at a3
  rw [← z61 7 (by decide)] at a7
  rw [← z61 8 (by decide)] at a8
  rw [← z62] at as
  rw [← z5] at a5
  rw [← zc] at ac
  have hLl : L.length = Lc.length + g := by rw [hL, List.length_append, mns_len]
  have hfll : (fl F).length = A.length + B.length := by rw [hfl, List.length_append]
  have hW : ∀ k ∈ List.replicate g 45 ++ A, isWt k ∧ k ≠ 39 ∧ least ≤ rk k := fun k hk => by
    rcases List.mem_append.mp hk with q | q
    · obtain ⟨-, rfl⟩ := List.mem_replicate.mp q
      exact ⟨Or.inr (Or.inr rfl), by decide, h7⟩
    · exact hA k q
  have hem : (Lc.map enc) ++ (List.replicate g 45 ++ A).map (fun k => 20000 + k) = (L ++ em A).map enc := by
    rw [← enc_em _ (fun k hk => ⟨(hW k hk).1, (hW k hk).2.1⟩), ← List.map_append, em_app, ← List.append_assoc, hL]
    rfl
  simp (disch := first | decide | omega) only [b64, w64_1, w64_4, w64_7, w64_8, w64_11, w64_12, w64_15, w64_16, w64_17, w64_18, w64_21, w64_22, w64_25, w64_26, w64_27, w64_30, w64_31, w64_32, w64_35, w64_36, w64_39, w64_40, w64_43, w64_44, w64_45, w64_46, w64_48, w64_51, w64_52, w64_54, w64_57, w64_58, w64_59, w64_62, w64_63, w64_64, w64_67, w64_68, w64_71, w64_74, w64_75, w64_76, w64_79, w64_82, tc61, tr61_2, tr61_6, ta62, tn62, xLoad_i, xLoad_l, xLoad_r, xInc_s, xBr_t, xBr_f, xNz_s, xGf_s, xPf_s, xPz_s, xLd_2, xLd_7, xLd_10, xLdb_3, xLdb_5, xLdb_9, xLdl_4, xLdr_6, xSt_2, xStl_4, xStb_3, xStb_5, xLen_s, xLen_10, xCpy_s, xIv_s, xMx_s, mCont_s, mCont_n, w32_s, w64_s, upC_e, upC_n, upC_u, upC_c, mEn_c, mEn_n, mcw_i, mcw_l, mcw_r, mcat_n, mcat_i, mcat_l, mcat_r, xlong_i, xlong_l, xlong_r, xlong_n, s1_at, s2_at, ↓reduceIte, reduceCtorEq, and_self, true_and, and_true, false_and, and_false, Bool.false_eq_true, ne_eq, not_true_eq_false, not_false_eq_true, or_true, true_or, or_false, false_or, or_self, Int.tmod_eq_emod_of_nonneg, Int.tdiv_eq_ediv_of_nonneg, Classical.not_not, xSw, rOK, b2i_ok, b2i_0, b2i_1, Nat.reduceAdd, Nat.reduceSub, Nat.reduceMul, Nat.reduceEqDiff, Nat.reduceLeDiff, Nat.reduceLT, Int.reduceAdd, Int.reduceSub, Int.reduceMul, Int.reduceNeg, Int.reduceEq, Int.reduceNe, Int.reduceLT, Int.reduceLE, Int.reduceToNat, Int.reduceTDiv, Int.reduceTMod, b2i_em]
  refine c_writeDown (i := i0) ht hB hBl (List.replicate g 45 ++ A) M (Lc.map enc) (dep F + g) _ (fun k hk => ⟨(hW k hk).1, (hW k hk).2.2⟩) ?_ a3 ?_ a8 ?_ ?_ ?_ ?_ ac ?_ ?_ ?_
  · rw [List.length_append, List.length_replicate]; have := fl_len F hF; have := (len_F F hF).1; omega
  · rw [a7, List.length_append, List.length_replicate]; omega
  · rw [ngs_r]
    constructor <;> omega
  · rw [List.append_assoc, ← hfl]; exact as
  · rw [a5, List.length_map]
  · rw [List.length_append, List.length_replicate, List.length_map]
    constructor <;> omega
  · simp [s1_at, s2_at, mEn_c, mcw_r, mcw_i, mcw_l, xlong_i, xlong_r, xlong_l, xlong_n]
  · simp [s1_at, s2_at, mEn_c, mcw_r, mcw_i, mcw_l, xlong_i, xlong_r, xlong_l, xlong_n]
  · intro M' f' b7 b8 b62 b5 bc
    rw [hem] at b5 bc
    rw [List.length_map] at b5
    exact hK M' f' b7 (by rw [b8, ngs_r]; omega) b62 b5 bc
