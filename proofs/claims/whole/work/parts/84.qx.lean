/-! worlds: the class, all of them in their order -/
def LSs (ru : RU) (A : Int → Int) (L : List Nat) (n : Nat) (it : Int) (M : mM) : Prop := M 80 7 = n ∧ M 80 9 = it ∧ M 2 0 = A 0 ∧ M 2 14 = A 5 ∧ (∀ b : Nat, b < 6 → M 9 (12 + b) = A (95 + b)) ∧ (∀ k : Nat, (k : Int) < A 5 → M 11 k = A (58 + 2 * k) ∧ M 12 k = A (59 + 2 * k) ∧ 0 ≤ A (58 + 2 * k) ∧ A (58 + 2 * k) < A 0) ∧ ∀ (b : Nat) (w : Int → Int), (b : Int) < A 0 → M 84 (b * 32 + lwS w b n) = ntW ru A L n w b
def WT (ru : RU) (A : Int → Int) (L : List Nat) (n : Nat) (it : Int) (X : Nat) (M : mM) : Prop := M 80 8 = cn (gW ru A L n) X ∧ (∀ b : Nat, (b : Int) < A 0 → ∀ s : Int, 0 ≤ s → s < 32 → M 85 (b * 32 + s) = cn (gT ru A L n b s) X) ∧ (it < 0 ∨ (cn (gW ru A L n) X : Int) ≤ it)
abbrev QS : List Nat := [80, 82, 83, 85]
theorem LSs_c {ru : RU} {A : Int → Int} {L : List Nat} {n : Nat} {it : Int} {M M' : mM} (h : LSs ru A L n it M) (hf : fr QS M M') (h8 : ∀ i, i ≠ 8 → M' 80 i = M 80 i) : LSs ru A L n it M' := by
  unfold LSs at h ⊢
  rw [h8 7 (by decide), h8 9 (by decide), hf 2 (by decide), hf 9 (by decide), hf 11 (by decide), hf 12 (by decide), hf 84 (by decide)]
  exact h
theorem WT_c {ru : RU} {A : Int → Int} {L : List Nat} {n X : Nat} {it : Int} {M M' : mM} (h : WT ru A L n it X M) (h8 : M' 80 8 = M 80 8) (h85 : M' 85 = M 85) : WT ru A L n it X M' := by
  unfold WT at h ⊢
  rw [h8, h85]
  exact h
theorem WT_skip {ru : RU} {A : Int → Int} {L : List Nat} {n X Y : Nat} {it : Int} {M : mM} (h : WT ru A L n it X M) (hxy : X ≤ Y) (g : ∀ x, X ≤ x → x < Y → gW ru A L n x ≠ 1) : WT ru A L n it Y M := by
  have e1 := cn_skip hxy g
  unfold WT at h ⊢
  rw [e1]
  refine ⟨h.1, fun b hb s s0 s1 => ?_, h.2.2⟩
  rw [h.2.1 b hb s s0 s1, cn_skip hxy (fun x h1 h2 e => g x h1 h2 (gT_1.mp e).1)]
theorem WT_no {ru : RU} {A : Int → Int} {L : List Nat} {n X : Nat} {it : Int} {M : mM} (h : WT ru A L n it X M) (g : gW ru A L n X ≠ 1) : WT ru A L n it (X + 1) M :=
  WT_skip h (by omega) (fun x h1 h2 => by rw [show x = X by omega]; exact g)
theorem WT_yes {ru : RU} {A w : Int → Int} {L : List Nat} {n X : Nat} {it : Int} {M M' : mM} (h : WT ru A L n it X M) (g : gW ru A L n X = 1) (hw : ∀ b : Nat, lwS (wd (cW A) n X) b n = lwS w b n) (h8 : M' 80 8 = M 80 8 + 1) (ht : ∀ b : Nat, (b : Int) < A 0 → ∀ s : Int, 0 ≤ s → s < 32 → M' 85 (b * 32 + s) = if s = lwS w b n then M 85 (b * 32 + s) + 1 else M 85 (b * 32 + s)) (hi : M 80 8 ≠ it) : WT ru A L n it (X + 1) M' := by
  have e1 := cn_s (G := gW ru A L n) (n := X)
  rw [if_pos g] at e1
  unfold WT at h ⊢
  rw [e1]
  refine ⟨by rw [h8, h.1]; rfl, fun b hb s s0 s1 => ?_, ?_⟩
  · have e2 := cn_s (G := gT ru A L n b s) (n := X)
    rw [ht b hb s s0 s1, h.2.1 b hb s s0 s1]
    by_cases c : s = lwS w b n
    · rw [if_pos (gT_1.mpr ⟨g, by rw [hw, c]⟩)] at e2
      rw [if_pos c, e2]; rfl
    · rw [if_neg (fun q => c (by rw [← hw, (gT_1.mp q).2]))] at e2
      rw [if_neg c, e2]
  · have := h.1
    have := h.2.2
    omega
set_option maxHeartbeats 4000000 in
theorem c_spread {d n : Nat} {K : mQ} {ru : RU} {A : Int → Int} {L : List Nat} {it : Int} (b0 : 0 ≤ A 0 ∧ A 0 ≤ 6) (b5 : 0 ≤ A 5 ∧ A 5 ≤ 6) (hn : n ≤ 5) : ∀ (f i : Nat) (M : mM) (w : Int → Int), f + i = n → LSs ru A L n it M → WT ru A L n it (vlW (cW A) w i * cW A ^ f) M → (∀ j : Nat, j < i → upW A (w j)) → (∀ j : Nat, j < i → M 82 j = w6 (w j)) → (∀ b : Nat, (b : Int) < A 0 → M 83 b = lwS w b i) → (∀ M', fr QS M M' → (∀ k, k ≠ 8 → M' 80 k = M 80 k) → WT ru A L n it ((vlW (cW A) w i + 1) * cW A ^ f) M' → (∀ j : Nat, j < i → M' 82 j = M 82 j) → (∀ b : Nat, (b : Int) < A 0 → M' 83 b = M 83 b) → K (some (vi 0)) M') → (∀ M' x, fr QS M M' → (∀ k, k ≠ 8 → M' 80 k = M 80 k) → x < cW A ^ n → gW ru A L n x = 1 → (cn (gW ru A L n) x : Int) = it → M' 80 8 = it + 1 → (∀ j : Nat, j < n → M' 82 j = w6 (wd (cW A) n x j)) → K (some (vi 1)) M') → mCall (d + f + 3) 31 [vr 80, vi i] M K
  | 0, i, M, w, hfi, hS, hT, hw, h82, h83, hNo, hYes => by
    have hi : i = n := by omega
    subst hi
    have hC : (cW A : Int) = A 0 + 1 := by unfold cW; omega
    have hwR : ∀ j : Nat, j < i → -1 ≤ w j ∧ w j + 1 < cW A := fun j hj => by
      have := hw j hj
      unfold upW at this
      omega
    have hX := vlW_lt (C := cW A) (w := w) i hwR
    have hC7 : cW A ^ i ≤ 16807 := by
      have h1 : cW A ^ i ≤ 7 ^ i := Nat.pow_le_pow_left (by omega) i
      have h2 : 7 ^ i ≤ 7 ^ 5 := Nat.pow_le_pow_right (by decide) hn
      have h3 : (7 : Nat) ^ 5 = 16807 := by decide
      omega
    rw [Nat.pow_zero, Nat.mul_one] at hT
    rw [Nat.pow_zero, Nat.mul_one] at hNo
    obtain ⟨s7, s9, s0, s14, s12, sH, sN⟩ := hS
    have hg := gW_vl (ru := ru) (A := A) (L := L) hwR
    have hcn := cn_n (G := gW ru A L i) (vlW (cW A) w i)
    have hwx : ∀ k : Nat, k < i → wd (cW A) i (vlW (cW A) w i) k = w k := fun k hk => wd_vl hwR hk
    rw [b31]
    simp (disch := first | decide | omega) only [w31_0, w31_1, w31_2, w31_5, w31_8, w31_9, w31_12, w31_13, w31_14, w31_17, w31_18, w31_20, w31_21, w31_22, w31_23, w31_24, w31_25, w31_28, w31_31, w31_32, w31_33, w31_34, w31_36, w31_37, w31_40, w31_43, w31_46, w31_47, w31_50, w31_51, w31_54, w31_57, w31_60, w31_61, w31_64, w31_65, w31_66, w31_67, w31_68, w31_71, w31_72, w31_73, w31_74, w31_75, w31_76, w31_77, w31_78, w31_79, w31_80, w31_81, w31_82, w31_83, w31_86, w31_87, w31_88, w31_91, w31_92, w31_93, w31_94, w31_95, w31_96, w31_97, w31_98, w31_99, w31_100, w31_101, w31_102, w31_105, w31_106, w31_107, w31_110, w31_113, w31_114, tc80, tr80_0, tr80_1, tr80_2, tr80_3, tr80_4, tr80_5, tr80_6, ta81, tn81, ta82, tn82, ta83, tn83, ta84, tn84, ta85, tn85, tc2, tr2_2, tr2_3, tr2_4, tr2_5, tr2_6, tr2_7, tr2_8, tr2_9, tr2_12, tr2_13, tr2_15, ta3, tn3, ta4, tn4, ta5, tn5, ta6, tn6, ta7, tn7, ta8, tn8, ta9, tn9, ta10, tn10, ta11, tn11, ta12, tn12, ta13, tn13, xLoad_i, xLoad_l, xLoad_r, xInc_s, xBr_t, xBr_f, xNz_s, xGf_s, xPf_s, xPz_s, xLd_2, xLd_7, xLd_10, xLdb_3, xLdb_5, xLdb_9, xLdl_4, xLdr_6, xSt_2, xStl_4, xStb_3, xStb_5, xLen_s, xLen_10, xCpy_s, xIv_s, xMx_s, mCont_s, mCont_n, w32_s, w64_s, upC_e, upC_n, upC_u, upC_c, mEn_c, mEn_n, mcw_i, mcw_l, mcw_r, mcat_n, mcat_i, mcat_l, mcat_r, xlong_i, xlong_l, xlong_r, xlong_n, s1_at, s2_at, ↓reduceIte, reduceCtorEq, and_self, true_and, and_true, false_and, and_false, Bool.false_eq_true, ne_eq, not_true_eq_false, not_false_eq_true, or_true, true_or, or_false, false_or, or_self, Int.tmod_eq_emod_of_nonneg, Int.tdiv_eq_ediv_of_nonneg, Classical.not_not, xSw, rOK, b2i_ok, b2i_0, b2i_1, Nat.reduceAdd, Nat.reduceSub, Nat.reduceMul, Nat.reduceEqDiff, Nat.reduceLeDiff, Nat.reduceLT, Int.reduceAdd, Int.reduceSub, Int.reduceMul, Int.reduceNeg, Int.reduceEq, Int.reduceNe, Int.reduceLT, Int.reduceLE, Int.reduceToNat, Int.reduceTDiv, Int.reduceTMod, b2i_em, s7]
    refine c_isWanted (A := A) (w := w) (n := i) (nW := ntW ru A L i w) b0 hn s0 s14 b5 sH h83 (fun b hb => sN b w hb) (by rw [hT.1]; omega) (fun b hb s s0 s1 => by
      rw [hT.2.1 b hb s s0 s1]
      have := cn_n (G := gT ru A L i b s) (vlW (cW A) w i)
      omega) (fun ⟨k, hk, hk2⟩ => ?_) (fun hk M' f1 f8 e8 e85 => ?_)
    · have hr := hNo M fr_refl (fun _ _ => rfl) (WT_no hT (fun g => hk2 ((hg.mp g).2 k hk))) (fun _ _ => rfl) (fun _ _ => rfl)
      simp (disch := first | decide | omega) only [w31_0, w31_1, w31_2, w31_5, w31_8, w31_9, w31_12, w31_13, w31_14, w31_17, w31_18, w31_20, w31_21, w31_22, w31_23, w31_24, w31_25, w31_28, w31_31, w31_32, w31_33, w31_34, w31_36, w31_37, w31_40, w31_43, w31_46, w31_47, w31_50, w31_51, w31_54, w31_57, w31_60, w31_61, w31_64, w31_65, w31_66, w31_67, w31_68, w31_71, w31_72, w31_73, w31_74, w31_75, w31_76, w31_77, w31_78, w31_79, w31_80, w31_81, w31_82, w31_83, w31_86, w31_87, w31_88, w31_91, w31_92, w31_93, w31_94, w31_95, w31_96, w31_97, w31_98, w31_99, w31_100, w31_101, w31_102, w31_105, w31_106, w31_107, w31_110, w31_113, w31_114, tc80, tr80_0, tr80_1, tr80_2, tr80_3, tr80_4, tr80_5, tr80_6, ta81, tn81, ta82, tn82, ta83, tn83, ta84, tn84, ta85, tn85, tc2, tr2_2, tr2_3, tr2_4, tr2_5, tr2_6, tr2_7, tr2_8, tr2_9, tr2_12, tr2_13, tr2_15, ta3, tn3, ta4, tn4, ta5, tn5, ta6, tn6, ta7, tn7, ta8, tn8, ta9, tn9, ta10, tn10, ta11, tn11, ta12, tn12, ta13, tn13, xLoad_i, xLoad_l, xLoad_r, xInc_s, xBr_t, xBr_f, xNz_s, xGf_s, xPf_s, xPz_s, xLd_2, xLd_7, xLd_10, xLdb_3, xLdb_5, xLdb_9, xLdl_4, xLdr_6, xSt_2, xStl_4, xStb_3, xStb_5, xLen_s, xLen_10, xCpy_s, xIv_s, xMx_s, mCont_s, mCont_n, w32_s, w64_s, upC_e, upC_n, upC_u, upC_c, mEn_c, mEn_n, mcw_i, mcw_l, mcw_r, mcat_n, mcat_i, mcat_l, mcat_r, xlong_i, xlong_l, xlong_r, xlong_n, s1_at, s2_at, ↓reduceIte, reduceCtorEq, and_self, true_and, and_true, false_and, and_false, Bool.false_eq_true, ne_eq, not_true_eq_false, not_false_eq_true, or_true, true_or, or_false, false_or, or_self, Int.tmod_eq_emod_of_nonneg, Int.tdiv_eq_ediv_of_nonneg, Classical.not_not, xSw, rOK, b2i_ok, b2i_0, b2i_1, Nat.reduceAdd, Nat.reduceSub, Nat.reduceMul, Nat.reduceEqDiff, Nat.reduceLeDiff, Nat.reduceLT, Int.reduceAdd, Int.reduceSub, Int.reduceMul, Int.reduceNeg, Int.reduceEq, Int.reduceNe, Int.reduceLT, Int.reduceLE, Int.reduceToNat, Int.reduceTDiv, Int.reduceTMod, b2i_em]
      exact hr
    · have hg1 := hg.mpr ⟨hw, hk⟩
      have hf1 : fr QS M M' := fr_mono f1 (by decide)
      have e82 : M' 82 = M 82 := f1 82 (by decide)
      by_cases c : M 80 8 = M 80 9
      · have hr := hYes M' (vlW (cW A) w i) hf1 f8 hX hg1 (by rw [← hT.1, c, s9]) (by rw [e8, c, s9]) (fun j hj => by rw [e82, h82 j hj, hwx j hj])
        rw [if_pos c]
        simp (disch := first | decide | omega) only [w31_0, w31_1, w31_2, w31_5, w31_8, w31_9, w31_12, w31_13, w31_14, w31_17, w31_18, w31_20, w31_21, w31_22, w31_23, w31_24, w31_25, w31_28, w31_31, w31_32, w31_33, w31_34, w31_36, w31_37, w31_40, w31_43, w31_46, w31_47, w31_50, w31_51, w31_54, w31_57, w31_60, w31_61, w31_64, w31_65, w31_66, w31_67, w31_68, w31_71, w31_72, w31_73, w31_74, w31_75, w31_76, w31_77, w31_78, w31_79, w31_80, w31_81, w31_82, w31_83, w31_86, w31_87, w31_88, w31_91, w31_92, w31_93, w31_94, w31_95, w31_96, w31_97, w31_98, w31_99, w31_100, w31_101, w31_102, w31_105, w31_106, w31_107, w31_110, w31_113, w31_114, tc80, tr80_0, tr80_1, tr80_2, tr80_3, tr80_4, tr80_5, tr80_6, ta81, tn81, ta82, tn82, ta83, tn83, ta84, tn84, ta85, tn85, tc2, tr2_2, tr2_3, tr2_4, tr2_5, tr2_6, tr2_7, tr2_8, tr2_9, tr2_12, tr2_13, tr2_15, ta3, tn3, ta4, tn4, ta5, tn5, ta6, tn6, ta7, tn7, ta8, tn8, ta9, tn9, ta10, tn10, ta11, tn11, ta12, tn12, ta13, tn13, xLoad_i, xLoad_l, xLoad_r, xInc_s, xBr_t, xBr_f, xNz_s, xGf_s, xPf_s, xPz_s, xLd_2, xLd_7, xLd_10, xLdb_3, xLdb_5, xLdb_9, xLdl_4, xLdr_6, xSt_2, xStl_4, xStb_3, xStb_5, xLen_s, xLen_10, xCpy_s, xIv_s, xMx_s, mCont_s, mCont_n, w32_s, w64_s, upC_e, upC_n, upC_u, upC_c, mEn_c, mEn_n, mcw_i, mcw_l, mcw_r, mcat_n, mcat_i, mcat_l, mcat_r, xlong_i, xlong_l, xlong_r, xlong_n, s1_at, s2_at, ↓reduceIte, reduceCtorEq, and_self, true_and, and_true, false_and, and_false, Bool.false_eq_true, ne_eq, not_true_eq_false, not_false_eq_true, or_true, true_or, or_false, false_or, or_self, Int.tmod_eq_emod_of_nonneg, Int.tdiv_eq_ediv_of_nonneg, Classical.not_not, xSw, rOK, b2i_ok, b2i_0, b2i_1, Nat.reduceAdd, Nat.reduceSub, Nat.reduceMul, Nat.reduceEqDiff, Nat.reduceLeDiff, Nat.reduceLT, Int.reduceAdd, Int.reduceSub, Int.reduceMul, Int.reduceNeg, Int.reduceEq, Int.reduceNe, Int.reduceLT, Int.reduceLE, Int.reduceToNat, Int.reduceTDiv, Int.reduceTMod, b2i_em]
        exact hr
      · have hr := hNo M' hf1 f8 (WT_yes (w := w) hT hg1 (fun b => lwS_cong hwx) e8 e85 (by rw [← s9]; exact c)) (fun j _ => by rw [e82]) (fun b _ => by rw [f1 83 (by decide)])
        rw [if_neg c]
        simp (disch := first | decide | omega) only [w31_0, w31_1, w31_2, w31_5, w31_8, w31_9, w31_12, w31_13, w31_14, w31_17, w31_18, w31_20, w31_21, w31_22, w31_23, w31_24, w31_25, w31_28, w31_31, w31_32, w31_33, w31_34, w31_36, w31_37, w31_40, w31_43, w31_46, w31_47, w31_50, w31_51, w31_54, w31_57, w31_60, w31_61, w31_64, w31_65, w31_66, w31_67, w31_68, w31_71, w31_72, w31_73, w31_74, w31_75, w31_76, w31_77, w31_78, w31_79, w31_80, w31_81, w31_82, w31_83, w31_86, w31_87, w31_88, w31_91, w31_92, w31_93, w31_94, w31_95, w31_96, w31_97, w31_98, w31_99, w31_100, w31_101, w31_102, w31_105, w31_106, w31_107, w31_110, w31_113, w31_114, tc80, tr80_0, tr80_1, tr80_2, tr80_3, tr80_4, tr80_5, tr80_6, ta81, tn81, ta82, tn82, ta83, tn83, ta84, tn84, ta85, tn85, tc2, tr2_2, tr2_3, tr2_4, tr2_5, tr2_6, tr2_7, tr2_8, tr2_9, tr2_12, tr2_13, tr2_15, ta3, tn3, ta4, tn4, ta5, tn5, ta6, tn6, ta7, tn7, ta8, tn8, ta9, tn9, ta10, tn10, ta11, tn11, ta12, tn12, ta13, tn13, xLoad_i, xLoad_l, xLoad_r, xInc_s, xBr_t, xBr_f, xNz_s, xGf_s, xPf_s, xPz_s, xLd_2, xLd_7, xLd_10, xLdb_3, xLdb_5, xLdb_9, xLdl_4, xLdr_6, xSt_2, xStl_4, xStb_3, xStb_5, xLen_s, xLen_10, xCpy_s, xIv_s, xMx_s, mCont_s, mCont_n, w32_s, w64_s, upC_e, upC_n, upC_u, upC_c, mEn_c, mEn_n, mcw_i, mcw_l, mcw_r, mcat_n, mcat_i, mcat_l, mcat_r, xlong_i, xlong_l, xlong_r, xlong_n, s1_at, s2_at, ↓reduceIte, reduceCtorEq, and_self, true_and, and_true, false_and, and_false, Bool.false_eq_true, ne_eq, not_true_eq_false, not_false_eq_true, or_true, true_or, or_false, false_or, or_self, Int.tmod_eq_emod_of_nonneg, Int.tdiv_eq_ediv_of_nonneg, Classical.not_not, xSw, rOK, b2i_ok, b2i_0, b2i_1, Nat.reduceAdd, Nat.reduceSub, Nat.reduceMul, Nat.reduceEqDiff, Nat.reduceLeDiff, Nat.reduceLT, Int.reduceAdd, Int.reduceSub, Int.reduceMul, Int.reduceNeg, Int.reduceEq, Int.reduceNe, Int.reduceLT, Int.reduceLE, Int.reduceToNat, Int.reduceTDiv, Int.reduceTMod, b2i_em]
        exact hr
  | f + 1, i, M, w, hfi, hS, hT, hw, h82, h83, hNo, hYes => by
    have hC : (cW A : Int) = A 0 + 1 := by unfold cW; omega
    have hCpos : 0 < cW A := by unfold cW; omega
    have s7 := hS.1
    have hpow : ∀ q : Nat, q * cW A ^ (f + 1) = q * cW A * cW A ^ f := fun q => by rw [Nat.pow_succ, Nat.mul_comm (cW A ^ f), Nat.mul_assoc]
    -- a world longer by one
    have hv : ∀ v : Int, -1 ≤ v → vlW (cW A) (mU w i v) (i + 1) = vlW (cW A) w i * cW A + (v + 1).toNat := fun v hv => by
      rw [vlW_s, mU_e, vlW_c i (fun j hj => mU_n (by omega))]
    have hup : ∀ v : Int, upW A v → ∀ j : Nat, j < i + 1 → upW A (mU w i v j) := fun v hv j hj => by
      by_cases e : j = i
      · rw [e, mU_e]; exact hv
      · rw [mU_n (by omega)]; exact hw j (by omega)
    have hpl : ∀ (M1 : mM) (v : Int), (∀ j : Nat, j < i → M1 82 j = M 82 j) → M1 82 i = w6 v → ∀ j : Nat, j < i + 1 → M1 82 j = w6 (mU w i v j) := fun M1 v h1 h2 j hj => by
      by_cases e : j = i
      · rw [e, mU_e, h2]
      · rw [mU_n (by omega), h1 j (by omega), h82 j (by omega)]
    have hlw : ∀ (v : Int) (b : Nat), lwS (mU w i v) b (i + 1) = if v = b then lwS w b i + 2 ^ i else lwS w b i := fun v b => by
      rw [lwS_s, mU_e, lwS_cong (fun j hj => mU_n (by omega))]
    have p2i := p2_5 i (by omega)
    have hsh := shl1c (k := i) (by omega)
    rw [show d + (f + 1) + 3 = d + f + 3 + 1 by omega]
    rw [b31]
    simp (disch := first | decide | omega) only [w31_0, w31_1, w31_2, w31_5, w31_8, w31_9, w31_12, w31_13, w31_14, w31_17, w31_18, w31_20, w31_21, w31_22, w31_23, w31_24, w31_25, w31_28, w31_31, w31_32, w31_33, w31_34, w31_36, w31_37, w31_40, w31_43, w31_46, w31_47, w31_50, w31_51, w31_54, w31_57, w31_60, w31_61, w31_64, w31_65, w31_66, w31_67, w31_68, w31_71, w31_72, w31_73, w31_74, w31_75, w31_76, w31_77, w31_78, w31_79, w31_80, w31_81, w31_82, w31_83, w31_86, w31_87, w31_88, w31_91, w31_92, w31_93, w31_94, w31_95, w31_96, w31_97, w31_98, w31_99, w31_100, w31_101, w31_102, w31_105, w31_106, w31_107, w31_110, w31_113, w31_114, tc80, tr80_0, tr80_1, tr80_2, tr80_3, tr80_4, tr80_5, tr80_6, ta81, tn81, ta82, tn82, ta83, tn83, ta84, tn84, ta85, tn85, tc2, tr2_2, tr2_3, tr2_4, tr2_5, tr2_6, tr2_7, tr2_8, tr2_9, tr2_12, tr2_13, tr2_15, ta3, tn3, ta4, tn4, ta5, tn5, ta6, tn6, ta7, tn7, ta8, tn8, ta9, tn9, ta10, tn10, ta11, tn11, ta12, tn12, ta13, tn13, xLoad_i, xLoad_l, xLoad_r, xInc_s, xBr_t, xBr_f, xNz_s, xGf_s, xPf_s, xPz_s, xLd_2, xLd_7, xLd_10, xLdb_3, xLdb_5, xLdb_9, xLdl_4, xLdr_6, xSt_2, xStl_4, xStb_3, xStb_5, xLen_s, xLen_10, xCpy_s, xIv_s, xMx_s, mCont_s, mCont_n, w32_s, w64_s, upC_e, upC_n, upC_u, upC_c, mEn_c, mEn_n, mcw_i, mcw_l, mcw_r, mcat_n, mcat_i, mcat_l, mcat_r, xlong_i, xlong_l, xlong_r, xlong_n, s1_at, s2_at, ↓reduceIte, reduceCtorEq, and_self, true_and, and_true, false_and, and_false, Bool.false_eq_true, ne_eq, not_true_eq_false, not_false_eq_true, or_true, true_or, or_false, false_or, or_self, Int.tmod_eq_emod_of_nonneg, Int.tdiv_eq_ediv_of_nonneg, Classical.not_not, xSw, rOK, b2i_ok, b2i_0, b2i_1, Nat.reduceAdd, Nat.reduceSub, Nat.reduceMul, Nat.reduceEqDiff, Nat.reduceLeDiff, Nat.reduceLT, Int.reduceAdd, Int.reduceSub, Int.reduceMul, Int.reduceNeg, Int.reduceEq, Int.reduceNe, Int.reduceLT, Int.reduceLE, Int.reduceToNat, Int.reduceTDiv, Int.reduceTMod, b2i_em, s7]
    have q80 : (upC M 82 (mU (M 82) i 6)) 80 = M 80 := upC_n (by decide)
    have q85 : (upC M 82 (mU (M 82) i 6)) 85 = M 85 := upC_n (by decide)
    have q83 : (upC M 82 (mU (M 82) i 6)) 83 = M 83 := upC_n (by decide)
    have fU : ∀ g, fr QS M (upC M 82 g) := fun g => fr_in (by decide)
    rw [show (i : Int) + 1 = ((i + 1 : Nat) : Int) by omega]
    refine c_spread b0 b5 hn f (i + 1) (upC M 82 (mU (M 82) i 6)) (mU w i (-1)) (by omega) (LSs_c hS (fU _) (fun k _ => by rw [q80])) ?_ (hup _ (Or.inl rfl)) (hpl _ (-1) (fun j hj => by rw [upC_e, mU_n (by omega)]) (by rw [upC_e, mU_e]; rfl)) (fun b hb => by rw [q83, hlw, if_neg (by omega)]; exact h83 b hb) (fun M1 f1 e80 hT1 e82 e83 => ?_) (fun M1 x f1 e80 hx hg hc e8 h => ?_)
    · rw [hv _ (by omega), show ((-1 : Int) + 1).toNat = 0 from rfl, Nat.add_zero, ← hpow]
      exact WT_c hT (by rw [q80]) q85
    · rw [hv _ (by omega)] at hT1
      have hf1 : fr QS M M1 := fr_trans (fU _) f1
      have e80' : ∀ k, k ≠ 8 → M1 80 k = M 80 k := fun k hk => by rw [e80 k hk, q80]
      have e82' : ∀ j : Nat, j < i → M1 82 j = M 82 j := fun j hj => by rw [e82 j (by omega), upC_e, mU_n (by omega)]
      have e83' : ∀ b : Nat, (b : Int) < A 0 → M1 83 b = M 83 b := fun b hb => by rw [e83 b hb, q83]
      simp (disch := first | decide | omega) only [w31_0, w31_1, w31_2, w31_5, w31_8, w31_9, w31_12, w31_13, w31_14, w31_17, w31_18, w31_20, w31_21, w31_22, w31_23, w31_24, w31_25, w31_28, w31_31, w31_32, w31_33, w31_34, w31_36, w31_37, w31_40, w31_43, w31_46, w31_47, w31_50, w31_51, w31_54, w31_57, w31_60, w31_61, w31_64, w31_65, w31_66, w31_67, w31_68, w31_71, w31_72, w31_73, w31_74, w31_75, w31_76, w31_77, w31_78, w31_79, w31_80, w31_81, w31_82, w31_83, w31_86, w31_87, w31_88, w31_91, w31_92, w31_93, w31_94, w31_95, w31_96, w31_97, w31_98, w31_99, w31_100, w31_101, w31_102, w31_105, w31_106, w31_107, w31_110, w31_113, w31_114, tc80, tr80_0, tr80_1, tr80_2, tr80_3, tr80_4, tr80_5, tr80_6, ta81, tn81, ta82, tn82, ta83, tn83, ta84, tn84, ta85, tn85, tc2, tr2_2, tr2_3, tr2_4, tr2_5, tr2_6, tr2_7, tr2_8, tr2_9, tr2_12, tr2_13, tr2_15, ta3, tn3, ta4, tn4, ta5, tn5, ta6, tn6, ta7, tn7, ta8, tn8, ta9, tn9, ta10, tn10, ta11, tn11, ta12, tn12, ta13, tn13, xLoad_i, xLoad_l, xLoad_r, xInc_s, xBr_t, xBr_f, xNz_s, xGf_s, xPf_s, xPz_s, xLd_2, xLd_7, xLd_10, xLdb_3, xLdb_5, xLdb_9, xLdl_4, xLdr_6, xSt_2, xStl_4, xStb_3, xStb_5, xLen_s, xLen_10, xCpy_s, xIv_s, xMx_s, mCont_s, mCont_n, w32_s, w64_s, upC_e, upC_n, upC_u, upC_c, mEn_c, mEn_n, mcw_i, mcw_l, mcw_r, mcat_n, mcat_i, mcat_l, mcat_r, xlong_i, xlong_l, xlong_r, xlong_n, s1_at, s2_at, ↓reduceIte, reduceCtorEq, and_self, true_and, and_true, false_and, and_false, Bool.false_eq_true, ne_eq, not_true_eq_false, not_false_eq_true, or_true, true_or, or_false, false_or, or_self, Int.tmod_eq_emod_of_nonneg, Int.tdiv_eq_ediv_of_nonneg, Classical.not_not, xSw, rOK, b2i_ok, b2i_0, b2i_1, Nat.reduceAdd, Nat.reduceSub, Nat.reduceMul, Nat.reduceEqDiff, Nat.reduceLeDiff, Nat.reduceLT, Int.reduceAdd, Int.reduceSub, Int.reduceMul, Int.reduceNeg, Int.reduceEq, Int.reduceNe, Int.reduceLT, Int.reduceLE, Int.reduceToNat, Int.reduceTDiv, Int.reduceTMod, b2i_em, s7]
      refine loopL (P := fun b lv M' => fr QS M M' ∧ (∀ k, k ≠ 8 → M' 80 k = M 80 k) ∧ WT ru A L n it ((vlW (cW A) w i * cW A + b + 1) * cW A ^ f) M' ∧ (∀ j : Nat, j < i → M' 82 j = M 82 j) ∧ (∀ b : Nat, (b : Int) < A 0 → M' 83 b = M 83 b) ∧ lv 0 = some (vr 80) ∧ lv 1 = some (vi i) ∧ lv 2 = some (vi (b : Nat))) (G := fun lv M' => rn (d + f + 3) 31 K 35 lv [] M') (A 0).toNat 0 (Nat.zero_le _) _ _ ⟨hf1, e80', hT1, e82', e83', ?_, ?_, ?_⟩ (fun b hb ih lv M' hI => ?_) (fun lv M' hI => ?_)
      any_goals (simp [s1_at, s2_at, mEn_c, mcw_r, mcw_i, mcw_l, xlong_i, xlong_r, xlong_l, xlong_n]; done)
      · obtain ⟨hf, k80, kT, k82, k83, g0, g1, g2⟩ := hI
        have hb6 : b < 6 := by omega
        have hbA : (b : Int) < A 0 := by omega
        have kS := LSs_c hS hf k80
        have k20 := kS.2.2.1
        have k9 := kS.2.2.2.2.1 b hb6
        have kx := k83 b hbA
        rw [h83 b hbA] at kx
        have hl := lwS_lt (wh := w) (b := b) i
        have hl5 := lwS_5 (w := w) (b := b) (n := i) (by omega)
        have hor := or_add (k := i) (by omega) hl
        rw [w31_35]
        by_cases c : A (95 + b) = 0
        · simp (disch := first | decide | omega) only [w31_0, w31_1, w31_2, w31_5, w31_8, w31_9, w31_12, w31_13, w31_14, w31_17, w31_18, w31_20, w31_21, w31_22, w31_23, w31_24, w31_25, w31_28, w31_31, w31_32, w31_33, w31_34, w31_36, w31_37, w31_40, w31_43, w31_46, w31_47, w31_50, w31_51, w31_54, w31_57, w31_60, w31_61, w31_64, w31_65, w31_66, w31_67, w31_68, w31_71, w31_72, w31_73, w31_74, w31_75, w31_76, w31_77, w31_78, w31_79, w31_80, w31_81, w31_82, w31_83, w31_86, w31_87, w31_88, w31_91, w31_92, w31_93, w31_94, w31_95, w31_96, w31_97, w31_98, w31_99, w31_100, w31_101, w31_102, w31_105, w31_106, w31_107, w31_110, w31_113, w31_114, tc80, tr80_0, tr80_1, tr80_2, tr80_3, tr80_4, tr80_5, tr80_6, ta81, tn81, ta82, tn82, ta83, tn83, ta84, tn84, ta85, tn85, tc2, tr2_2, tr2_3, tr2_4, tr2_5, tr2_6, tr2_7, tr2_8, tr2_9, tr2_12, tr2_13, tr2_15, ta3, tn3, ta4, tn4, ta5, tn5, ta6, tn6, ta7, tn7, ta8, tn8, ta9, tn9, ta10, tn10, ta11, tn11, ta12, tn12, ta13, tn13, xLoad_i, xLoad_l, xLoad_r, xInc_s, xBr_t, xBr_f, xNz_s, xGf_s, xPf_s, xPz_s, xLd_2, xLd_7, xLd_10, xLdb_3, xLdb_5, xLdb_9, xLdl_4, xLdr_6, xSt_2, xStl_4, xStb_3, xStb_5, xLen_s, xLen_10, xCpy_s, xIv_s, xMx_s, mCont_s, mCont_n, w32_s, w64_s, upC_e, upC_n, upC_u, upC_c, mEn_c, mEn_n, mcw_i, mcw_l, mcw_r, mcat_n, mcat_i, mcat_l, mcat_r, xlong_i, xlong_l, xlong_r, xlong_n, s1_at, s2_at, ↓reduceIte, reduceCtorEq, and_self, true_and, and_true, false_and, and_false, Bool.false_eq_true, ne_eq, not_true_eq_false, not_false_eq_true, or_true, true_or, or_false, false_or, or_self, Int.tmod_eq_emod_of_nonneg, Int.tdiv_eq_ediv_of_nonneg, Classical.not_not, xSw, rOK, b2i_ok, b2i_0, b2i_1, Nat.reduceAdd, Nat.reduceSub, Nat.reduceMul, Nat.reduceEqDiff, Nat.reduceLeDiff, Nat.reduceLT, Int.reduceAdd, Int.reduceSub, Int.reduceMul, Int.reduceNeg, Int.reduceEq, Int.reduceNe, Int.reduceLT, Int.reduceLE, Int.reduceToNat, Int.reduceTDiv, Int.reduceTMod, b2i_em, g0, g1, g2, k20, c_isUp, b2i_t, k9, c, kx, hsh, hor]
          have c1 : upW A b := Or.inr ⟨by omega, hbA, c⟩
          have fN : fr QS M' (upC (upC M' 82 (mU (M' 82) i b)) 83 (mU (M' 83) b (lwS w b i + 2 ^ i))) := by (repeat (first | exact fr_refl | assumption | refine fr_up (by decide) ?_))
          have n80 : (upC (upC M' 82 (mU (M' 82) i b)) 83 (mU (M' 83) b (lwS w b i + 2 ^ i))) 80 = M' 80 := by simp (disch := first | decide | omega) only [upC_e, upC_n, mU_e, mU_n]
          have n85 : (upC (upC M' 82 (mU (M' 82) i b)) 83 (mU (M' 83) b (lwS w b i + 2 ^ i))) 85 = M' 85 := by simp (disch := first | decide | omega) only [upC_e, upC_n, mU_e, mU_n]
          have n82 : (upC (upC M' 82 (mU (M' 82) i b)) 83 (mU (M' 83) b (lwS w b i + 2 ^ i))) 82 = mU (M' 82) i b := by simp (disch := first | decide | omega) only [upC_e, upC_n, mU_e, mU_n]
          have n83 : (upC (upC M' 82 (mU (M' 82) i b)) 83 (mU (M' 83) b (lwS w b i + 2 ^ i))) 83 = mU (M' 83) b (lwS w b i + 2 ^ i) := by simp (disch := first | decide | omega) only [upC_e, upC_n, mU_e, mU_n]
          generalize upC (upC M' 82 (mU (M' 82) i b)) 83 (mU (M' 83) b (lwS w b i + 2 ^ i)) = N at fN n80 n85 n82 n83 ⊢
          have hoff := bit_off i (by omega) (lwS w b i).toNat (by omega) (by have := p2N i (by omega); omega)
          rw [show (((lwS w b i).toNat : Nat) : Int) = lwS w b i by omega] at hoff
          have hfN : fr QS M N := fr_trans hf fN
          have ex : ∀ (M2 : mM), M2 83 b = lwS w b i + 2 ^ i → (∀ b2 : Nat, (b2 : Int) < A 0 → M2 83 b2 = N 83 b2) → ∀ b2 : Nat, (b2 : Int) < A 0 → (upC M2 83 (mU (M2 83) b (lwS w b i))) 83 b2 = M 83 b2 := fun M2 m83 e283 b2 hb2 => by
            rw [upC_e]
            by_cases e : b2 = b
            · subst e
              rw [mU_e, h83 b2 hb2]
            · rw [mU_n (by omega), e283 b2 hb2, n83, mU_n (by omega), k83 b2 hb2]
          rw [show (i : Int) + 1 = ((i + 1 : Nat) : Int) by omega]
          refine c_spread b0 b5 hn f (i + 1) N (mU w i b) (by omega) (LSs_c kS fN (fun k _ => by rw [n80])) ?_ (hup _ c1) (hpl _ b (fun j hj => by rw [n82, mU_n (by omega)]; exact k82 j hj) (by rw [n82, mU_e, w6, if_neg (by omega)])) (fun b2 hb2 => ?_) (fun M2 f2 e280 hT2 e282 e283 => ?_) (fun M2 x f2 e280 hx hg hc e8 h => ?_)
          · rw [hv _ (by omega), show ((b : Int) + 1).toNat = b + 1 by omega, ← Nat.add_assoc]
            exact WT_c kT (by rw [n80]) n85
          · rw [n83, hlw]
            by_cases e : b2 = b
            · subst e
              rw [mU_e, if_pos rfl]
            · rw [mU_n (by omega), if_neg (by omega), k83 b2 hb2, h83 b2 hb2]
          · have m83 : M2 83 b = lwS w b i + 2 ^ i := by rw [e283 b hbA, n83, mU_e]
            rw [hv _ (by omega), show ((b : Int) + 1).toNat = b + 1 by omega, ← Nat.add_assoc] at hT2
            simp (disch := first | decide | omega) only [w31_0, w31_1, w31_2, w31_5, w31_8, w31_9, w31_12, w31_13, w31_14, w31_17, w31_18, w31_20, w31_21, w31_22, w31_23, w31_24, w31_25, w31_28, w31_31, w31_32, w31_33, w31_34, w31_36, w31_37, w31_40, w31_43, w31_46, w31_47, w31_50, w31_51, w31_54, w31_57, w31_60, w31_61, w31_64, w31_65, w31_66, w31_67, w31_68, w31_71, w31_72, w31_73, w31_74, w31_75, w31_76, w31_77, w31_78, w31_79, w31_80, w31_81, w31_82, w31_83, w31_86, w31_87, w31_88, w31_91, w31_92, w31_93, w31_94, w31_95, w31_96, w31_97, w31_98, w31_99, w31_100, w31_101, w31_102, w31_105, w31_106, w31_107, w31_110, w31_113, w31_114, tc80, tr80_0, tr80_1, tr80_2, tr80_3, tr80_4, tr80_5, tr80_6, ta81, tn81, ta82, tn82, ta83, tn83, ta84, tn84, ta85, tn85, tc2, tr2_2, tr2_3, tr2_4, tr2_5, tr2_6, tr2_7, tr2_8, tr2_9, tr2_12, tr2_13, tr2_15, ta3, tn3, ta4, tn4, ta5, tn5, ta6, tn6, ta7, tn7, ta8, tn8, ta9, tn9, ta10, tn10, ta11, tn11, ta12, tn12, ta13, tn13, xLoad_i, xLoad_l, xLoad_r, xInc_s, xBr_t, xBr_f, xNz_s, xGf_s, xPf_s, xPz_s, xLd_2, xLd_7, xLd_10, xLdb_3, xLdb_5, xLdb_9, xLdl_4, xLdr_6, xSt_2, xStl_4, xStb_3, xStb_5, xLen_s, xLen_10, xCpy_s, xIv_s, xMx_s, mCont_s, mCont_n, w32_s, w64_s, upC_e, upC_n, upC_u, upC_c, mEn_c, mEn_n, mcw_i, mcw_l, mcw_r, mcat_n, mcat_i, mcat_l, mcat_r, xlong_i, xlong_l, xlong_r, xlong_n, s1_at, s2_at, ↓reduceIte, reduceCtorEq, and_self, true_and, and_true, false_and, and_false, Bool.false_eq_true, ne_eq, not_true_eq_false, not_false_eq_true, or_true, true_or, or_false, false_or, or_self, Int.tmod_eq_emod_of_nonneg, Int.tdiv_eq_ediv_of_nonneg, Classical.not_not, xSw, rOK, b2i_ok, b2i_0, b2i_1, Nat.reduceAdd, Nat.reduceSub, Nat.reduceMul, Nat.reduceEqDiff, Nat.reduceLeDiff, Nat.reduceLT, Int.reduceAdd, Int.reduceSub, Int.reduceMul, Int.reduceNeg, Int.reduceEq, Int.reduceNe, Int.reduceLT, Int.reduceLE, Int.reduceToNat, Int.reduceTDiv, Int.reduceTMod, b2i_em, g0, g1, g2, m83, hsh, hoff]
            refine ih _ _ ⟨fr_up (by decide) (fr_trans hfN f2), fun k hk => by rw [upC_n (by decide), e280 k hk, n80, k80 k hk], WT_c hT2 (by rw [upC_n (by decide)]) (by rw [upC_n (by decide)]), fun j hj => by rw [upC_n (by decide), e282 j (by omega), n82, mU_n (by omega), k82 j hj], ex M2 m83 e283, ?_, ?_, ?_⟩
            all_goals simp [s1_at, s2_at, mEn_c, mcw_r, mcw_i, mcw_l, xlong_i, xlong_r, xlong_l, xlong_n, g0, g1, g2]
          · have hr := fun g => hYes (upC M2 83 g) x (fr_up (by decide) (fr_trans hfN f2)) (fun k hk => by rw [upC_n (by decide), e280 k hk, n80, k80 k hk]) hx hg hc (by rw [upC_n (by decide)]; exact e8) (fun j hj => by rw [upC_n (by decide)]; exact h j hj)
            simp (disch := first | decide | omega) only [w31_0, w31_1, w31_2, w31_5, w31_8, w31_9, w31_12, w31_13, w31_14, w31_17, w31_18, w31_20, w31_21, w31_22, w31_23, w31_24, w31_25, w31_28, w31_31, w31_32, w31_33, w31_34, w31_36, w31_37, w31_40, w31_43, w31_46, w31_47, w31_50, w31_51, w31_54, w31_57, w31_60, w31_61, w31_64, w31_65, w31_66, w31_67, w31_68, w31_71, w31_72, w31_73, w31_74, w31_75, w31_76, w31_77, w31_78, w31_79, w31_80, w31_81, w31_82, w31_83, w31_86, w31_87, w31_88, w31_91, w31_92, w31_93, w31_94, w31_95, w31_96, w31_97, w31_98, w31_99, w31_100, w31_101, w31_102, w31_105, w31_106, w31_107, w31_110, w31_113, w31_114, tc80, tr80_0, tr80_1, tr80_2, tr80_3, tr80_4, tr80_5, tr80_6, ta81, tn81, ta82, tn82, ta83, tn83, ta84, tn84, ta85, tn85, tc2, tr2_2, tr2_3, tr2_4, tr2_5, tr2_6, tr2_7, tr2_8, tr2_9, tr2_12, tr2_13, tr2_15, ta3, tn3, ta4, tn4, ta5, tn5, ta6, tn6, ta7, tn7, ta8, tn8, ta9, tn9, ta10, tn10, ta11, tn11, ta12, tn12, ta13, tn13, xLoad_i, xLoad_l, xLoad_r, xInc_s, xBr_t, xBr_f, xNz_s, xGf_s, xPf_s, xPz_s, xLd_2, xLd_7, xLd_10, xLdb_3, xLdb_5, xLdb_9, xLdl_4, xLdr_6, xSt_2, xStl_4, xStb_3, xStb_5, xLen_s, xLen_10, xCpy_s, xIv_s, xMx_s, mCont_s, mCont_n, w32_s, w64_s, upC_e, upC_n, upC_u, upC_c, mEn_c, mEn_n, mcw_i, mcw_l, mcw_r, mcat_n, mcat_i, mcat_l, mcat_r, xlong_i, xlong_l, xlong_r, xlong_n, s1_at, s2_at, ↓reduceIte, reduceCtorEq, and_self, true_and, and_true, false_and, and_false, Bool.false_eq_true, ne_eq, not_true_eq_false, not_false_eq_true, or_true, true_or, or_false, false_or, or_self, Int.tmod_eq_emod_of_nonneg, Int.tdiv_eq_ediv_of_nonneg, Classical.not_not, xSw, rOK, b2i_ok, b2i_0, b2i_1, Nat.reduceAdd, Nat.reduceSub, Nat.reduceMul, Nat.reduceEqDiff, Nat.reduceLeDiff, Nat.reduceLT, Int.reduceAdd, Int.reduceSub, Int.reduceMul, Int.reduceNeg, Int.reduceEq, Int.reduceNe, Int.reduceLT, Int.reduceLE, Int.reduceToNat, Int.reduceTDiv, Int.reduceTMod, b2i_em, g0, g1, g2, hsh]
            exact hr _
        · simp (disch := first | decide | omega) only [w31_0, w31_1, w31_2, w31_5, w31_8, w31_9, w31_12, w31_13, w31_14, w31_17, w31_18, w31_20, w31_21, w31_22, w31_23, w31_24, w31_25, w31_28, w31_31, w31_32, w31_33, w31_34, w31_36, w31_37, w31_40, w31_43, w31_46, w31_47, w31_50, w31_51, w31_54, w31_57, w31_60, w31_61, w31_64, w31_65, w31_66, w31_67, w31_68, w31_71, w31_72, w31_73, w31_74, w31_75, w31_76, w31_77, w31_78, w31_79, w31_80, w31_81, w31_82, w31_83, w31_86, w31_87, w31_88, w31_91, w31_92, w31_93, w31_94, w31_95, w31_96, w31_97, w31_98, w31_99, w31_100, w31_101, w31_102, w31_105, w31_106, w31_107, w31_110, w31_113, w31_114, tc80, tr80_0, tr80_1, tr80_2, tr80_3, tr80_4, tr80_5, tr80_6, ta81, tn81, ta82, tn82, ta83, tn83, ta84, tn84, ta85, tn85, tc2, tr2_2, tr2_3, tr2_4, tr2_5, tr2_6, tr2_7, tr2_8, tr2_9, tr2_12, tr2_13, tr2_15, ta3, tn3, ta4, tn4, ta5, tn5, ta6, tn6, ta7, tn7, ta8, tn8, ta9, tn9, ta10, tn10, ta11, tn11, ta12, tn12, ta13, tn13, xLoad_i, xLoad_l, xLoad_r, xInc_s, xBr_t, xBr_f, xNz_s, xGf_s, xPf_s, xPz_s, xLd_2, xLd_7, xLd_10, xLdb_3, xLdb_5, xLdb_9, xLdl_4, xLdr_6, xSt_2, xStl_4, xStb_3, xStb_5, xLen_s, xLen_10, xCpy_s, xIv_s, xMx_s, mCont_s, mCont_n, w32_s, w64_s, upC_e, upC_n, upC_u, upC_c, mEn_c, mEn_n, mcw_i, mcw_l, mcw_r, mcat_n, mcat_i, mcat_l, mcat_r, xlong_i, xlong_l, xlong_r, xlong_n, s1_at, s2_at, ↓reduceIte, reduceCtorEq, and_self, true_and, and_true, false_and, and_false, Bool.false_eq_true, ne_eq, not_true_eq_false, not_false_eq_true, or_true, true_or, or_false, false_or, or_self, Int.tmod_eq_emod_of_nonneg, Int.tdiv_eq_ediv_of_nonneg, Classical.not_not, xSw, rOK, b2i_ok, b2i_0, b2i_1, Nat.reduceAdd, Nat.reduceSub, Nat.reduceMul, Nat.reduceEqDiff, Nat.reduceLeDiff, Nat.reduceLT, Int.reduceAdd, Int.reduceSub, Int.reduceMul, Int.reduceNeg, Int.reduceEq, Int.reduceNe, Int.reduceLT, Int.reduceLE, Int.reduceToNat, Int.reduceTDiv, Int.reduceTMod, b2i_em, g0, g1, g2, k20, c_isUp, b2i_f, k9, c]
          refine ih _ _ ⟨hf, k80, WT_skip kT ?_ (fun x h1 h2 => ?_), k82, k83, ?_, ?_, ?_⟩
          any_goals (simp [s1_at, s2_at, mEn_c, mcw_r, mcw_i, mcw_l, xlong_i, xlong_r, xlong_l, xlong_n, g0, g1, g2]; done)
          · exact Nat.mul_le_mul_right _ (by omega)
          · intro hg
            have h3 := (gW_1.mp hg).1 i (by omega)
            have h4 : vlW (cW A) (mU w i b) (i + 1) = vlW (cW A) w i * cW A + b + 1 := by rw [hv _ (by omega)]; omega
            rw [wd_blk (w := mU w i b) (f := f) (by omega) (fun j hj => ?_) (by rw [h4]; exact h1) (by rw [h4]; exact h2), mU_e] at h3
            · rcases h3 with h3 | h3
              · omega
              · exact c h3.2.2
            · by_cases e : j = i
              · rw [e, mU_e]; omega
              · rw [mU_n (by omega)]
                have := hw j (by omega)
                unfold upW at this
                omega
      · obtain ⟨hf, k80, kT, k82, k83, g0, g1, g2⟩ := hI
        have kS := LSs_c hS hf k80
        have k20 := kS.2.2.1
        have hr := hNo M' hf k80 (by
          rw [hpow]
          have e : (vlW (cW A) w i + 1) * cW A = vlW (cW A) w i * cW A + (A 0).toNat + 1 := by
            rw [Nat.add_mul]
            unfold cW
            omega
          rw [e]
          exact kT) k82 k83
        rw [w31_35]
        simp (disch := first | decide | omega) only [w31_0, w31_1, w31_2, w31_5, w31_8, w31_9, w31_12, w31_13, w31_14, w31_17, w31_18, w31_20, w31_21, w31_22, w31_23, w31_24, w31_25, w31_28, w31_31, w31_32, w31_33, w31_34, w31_36, w31_37, w31_40, w31_43, w31_46, w31_47, w31_50, w31_51, w31_54, w31_57, w31_60, w31_61, w31_64, w31_65, w31_66, w31_67, w31_68, w31_71, w31_72, w31_73, w31_74, w31_75, w31_76, w31_77, w31_78, w31_79, w31_80, w31_81, w31_82, w31_83, w31_86, w31_87, w31_88, w31_91, w31_92, w31_93, w31_94, w31_95, w31_96, w31_97, w31_98, w31_99, w31_100, w31_101, w31_102, w31_105, w31_106, w31_107, w31_110, w31_113, w31_114, tc80, tr80_0, tr80_1, tr80_2, tr80_3, tr80_4, tr80_5, tr80_6, ta81, tn81, ta82, tn82, ta83, tn83, ta84, tn84, ta85, tn85, tc2, tr2_2, tr2_3, tr2_4, tr2_5, tr2_6, tr2_7, tr2_8, tr2_9, tr2_12, tr2_13, tr2_15, ta3, tn3, ta4, tn4, ta5, tn5, ta6, tn6, ta7, tn7, ta8, tn8, ta9, tn9, ta10, tn10, ta11, tn11, ta12, tn12, ta13, tn13, xLoad_i, xLoad_l, xLoad_r, xInc_s, xBr_t, xBr_f, xNz_s, xGf_s, xPf_s, xPz_s, xLd_2, xLd_7, xLd_10, xLdb_3, xLdb_5, xLdb_9, xLdl_4, xLdr_6, xSt_2, xStl_4, xStb_3, xStb_5, xLen_s, xLen_10, xCpy_s, xIv_s, xMx_s, mCont_s, mCont_n, w32_s, w64_s, upC_e, upC_n, upC_u, upC_c, mEn_c, mEn_n, mcw_i, mcw_l, mcw_r, mcat_n, mcat_i, mcat_l, mcat_r, xlong_i, xlong_l, xlong_r, xlong_n, s1_at, s2_at, ↓reduceIte, reduceCtorEq, and_self, true_and, and_true, false_and, and_false, Bool.false_eq_true, ne_eq, not_true_eq_false, not_false_eq_true, or_true, true_or, or_false, false_or, or_self, Int.tmod_eq_emod_of_nonneg, Int.tdiv_eq_ediv_of_nonneg, Classical.not_not, xSw, rOK, b2i_ok, b2i_0, b2i_1, Nat.reduceAdd, Nat.reduceSub, Nat.reduceMul, Nat.reduceEqDiff, Nat.reduceLeDiff, Nat.reduceLT, Int.reduceAdd, Int.reduceSub, Int.reduceMul, Int.reduceNeg, Int.reduceEq, Int.reduceNe, Int.reduceLT, Int.reduceLE, Int.reduceToNat, Int.reduceTDiv, Int.reduceTMod, b2i_em, g0, g1, g2, k20]
        exact hr
    · have hr := hYes M1 x (fr_trans (fU _) f1) (fun k hk => by rw [e80 k hk, q80]) hx hg hc e8 h
      simp (disch := first | decide | omega) only [w31_0, w31_1, w31_2, w31_5, w31_8, w31_9, w31_12, w31_13, w31_14, w31_17, w31_18, w31_20, w31_21, w31_22, w31_23, w31_24, w31_25, w31_28, w31_31, w31_32, w31_33, w31_34, w31_36, w31_37, w31_40, w31_43, w31_46, w31_47, w31_50, w31_51, w31_54, w31_57, w31_60, w31_61, w31_64, w31_65, w31_66, w31_67, w31_68, w31_71, w31_72, w31_73, w31_74, w31_75, w31_76, w31_77, w31_78, w31_79, w31_80, w31_81, w31_82, w31_83, w31_86, w31_87, w31_88, w31_91, w31_92, w31_93, w31_94, w31_95, w31_96, w31_97, w31_98, w31_99, w31_100, w31_101, w31_102, w31_105, w31_106, w31_107, w31_110, w31_113, w31_114, tc80, tr80_0, tr80_1, tr80_2, tr80_3, tr80_4, tr80_5, tr80_6, ta81, tn81, ta82, tn82, ta83, tn83, ta84, tn84, ta85, tn85, tc2, tr2_2, tr2_3, tr2_4, tr2_5, tr2_6, tr2_7, tr2_8, tr2_9, tr2_12, tr2_13, tr2_15, ta3, tn3, ta4, tn4, ta5, tn5, ta6, tn6, ta7, tn7, ta8, tn8, ta9, tn9, ta10, tn10, ta11, tn11, ta12, tn12, ta13, tn13, xLoad_i, xLoad_l, xLoad_r, xInc_s, xBr_t, xBr_f, xNz_s, xGf_s, xPf_s, xPz_s, xLd_2, xLd_7, xLd_10, xLdb_3, xLdb_5, xLdb_9, xLdl_4, xLdr_6, xSt_2, xStl_4, xStb_3, xStb_5, xLen_s, xLen_10, xCpy_s, xIv_s, xMx_s, mCont_s, mCont_n, w32_s, w64_s, upC_e, upC_n, upC_u, upC_c, mEn_c, mEn_n, mcw_i, mcw_l, mcw_r, mcat_n, mcat_i, mcat_l, mcat_r, xlong_i, xlong_l, xlong_r, xlong_n, s1_at, s2_at, ↓reduceIte, reduceCtorEq, and_self, true_and, and_true, false_and, and_false, Bool.false_eq_true, ne_eq, not_true_eq_false, not_false_eq_true, or_true, true_or, or_false, false_or, or_self, Int.tmod_eq_emod_of_nonneg, Int.tdiv_eq_ediv_of_nonneg, Classical.not_not, xSw, rOK, b2i_ok, b2i_0, b2i_1, Nat.reduceAdd, Nat.reduceSub, Nat.reduceMul, Nat.reduceEqDiff, Nat.reduceLeDiff, Nat.reduceLT, Int.reduceAdd, Int.reduceSub, Int.reduceMul, Int.reduceNeg, Int.reduceEq, Int.reduceNe, Int.reduceLT, Int.reduceLE, Int.reduceToNat, Int.reduceTDiv, Int.reduceTMod, b2i_em, s7]
      exact hr
