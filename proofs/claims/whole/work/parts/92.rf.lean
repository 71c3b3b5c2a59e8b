/-! a game: the class -/
abbrev QW : List Nat := [89, 92, 93, 64, 65, 66, 34, 42, 50, 58]
theorem QWX : ∀ k, k ∈ QW → k ∈ QX := by decide
def GSs (ru : RU) (A : Int → Int) (L : List Nat) (n o p : Nat) (D : Int → Int) (M : mM) : Prop := M 89 6 = n ∧ LO (M 90) L ∧ (∀ q : Nat, q < 2 → M 91 q = bo o p q ∧ M 92 q = brn A (bo o p q) + wPt A L D ((q : Int) + 1) n ∧ M 93 q = mny A (bo o p q) + cPt D ((q : Int) + 1) n) ∧ ∀ b : Nat, (b : Int) < A 0 → M 64 b = ntG ru A L n o p D b
theorem GSs_c {ru : RU} {A : Int → Int} {L : List Nat} {n o p : Nat} {D : Int → Int} {M M' : mM} (h : GSs ru A L n o p D M) (hf : fr QW M M') (e89 : ∀ i, i ≠ 7 → M' 89 i = M 89 i) (e92 : ∀ q : Nat, q < 2 → M' 92 q = M 92 q ∧ M' 93 q = M 93 q) (e64 : ∀ b : Nat, (b : Int) < A 0 → M' 64 b = M 64 b) : GSs ru A L n o p D M' := by
  obtain ⟨h1, h2, h3, h4⟩ := h
  refine ⟨by rw [e89 6 (by decide), h1], by rw [hf 90 (by decide)]; exact h2, fun q hq => ?_, fun b hb => by rw [e64 b hb, h4 b hb]⟩
  rw [hf 91 (by decide), (e92 q hq).1, (e92 q hq).2]
  exact h3 q hq
set_option maxHeartbeats 4000000 in
theorem c_wins {d n o p : Nat} {K : mQ} {A : Int → Int} {ru : RU} {L : List Nat} (n1 : 1 ≤ n) (n6 : n ≤ 6) (hl : L.length = n) (hl12 : ∀ i, i < n → L.getD i 0 < 12) (hop : o ≠ p) (ho : (o : Int) < A 0) (hp : (p : Int) < A 0) : ∀ (f t : Nat) (M : mM) (D : Int → Int) (u : Int), f + t = n → CX M A ru → GSs ru A L n o p D M → (0 ≤ u ∧ u < 64) → (∀ k : Nat, k < n → (iAnd (iShr u k) 1 = 1 ↔ D k ≠ 0)) → (∀ M', fr QW M M' → (∀ i, i ≠ 7 → M' 89 i = M 89 i) → M' 89 7 = (if t = 0 ∧ winR ru A L n o p f D = 1 then ((L.getD (ls (mvG ru A L n o p (f - 1) D) n).toNat 0 : Nat) : Int) else M 89 7) → (∀ q : Nat, q < 2 → M' 92 q = M 92 q ∧ M' 93 q = M 93 q) → (∀ b : Nat, (b : Int) < A 0 → M' 64 b = M 64 b) → K (some (vi (winR ru A L n o p f D))) M') → mCall (d + f + 6) 39 [vr 89, vi t, vi u] M K
  | 0, t, M, D, u, hft, hX, hG, hu, hD, hK => by
    have s6 := hG.1
    have hr := hK M fr_refl (fun _ _ => rfl) (by rw [if_neg (by omega)]) (fun _ _ => ⟨rfl, rfl⟩) (fun _ _ => rfl)
    have hw : winR ru A L n o p 0 D = 1 := rfl
    rw [hw] at hr
    rw [b39]
    simp (disch := first | decide | omega) only [w39_0, w39_1, w39_2, w39_5, w39_8, w39_9, w39_10, w39_11, w39_12, w39_13, w39_14, w39_15, w39_18, w39_19, w39_20, w39_22, w39_23, w39_26, w39_29, w39_31, w39_32, w39_34, w39_35, w39_39, w39_40, w39_43, w39_46, w39_47, w39_49, w39_52, w39_55, w39_58, w39_59, w39_62, w39_65, w39_66, w39_69, w39_71, w39_72, w39_73, w39_75, w39_76, w39_79, w39_80, w39_81, w39_82, w39_84, w39_85, w39_86, w39_87, w39_90, w39_91, w39_92, w39_93, w39_94, w39_95, w39_96, w39_97, w39_100, w39_103, w39_105, w39_106, w39_109, w39_111, w39_112, w39_115, w39_116, w39_117, w39_118, w39_121, w39_122, w39_123, w39_126, w39_127, w39_128, w39_131, w39_132, w39_135, w39_138, w39_139, w39_140, w39_141, w39_142, w39_143, w39_144, w39_146, w39_147, w39_148, w39_151, w39_154, w39_155, w39_158, w39_159, w39_161, w39_162, w39_165, w39_166, w39_167, w39_168, w39_170, w39_171, w39_172, w39_173, w39_176, w39_177, w39_178, w39_179, w39_180, w39_181, w39_182, w39_183, w39_186, w39_189, w39_191, w39_193, w39_194, w39_196, w39_199, w39_202, w39_203, w39_206, w39_207, w39_208, w39_211, w39_213, w39_214, w39_217, w39_218, w39_219, w39_222, w39_225, w39_226, tc89, tr89_0, tr89_1, tr89_2, tr89_3, tr89_4, tr89_5, ta90, tn90, ta91, tn91, ta92, tn92, ta93, tn93, xLoad_i, xLoad_l, xLoad_r, xInc_s, xBr_t, xBr_f, xNz_s, xGf_s, xPf_s, xPz_s, xLd_2, xLd_7, xLd_10, xLdb_3, xLdb_5, xLdb_9, xLdl_4, xLdr_6, xSt_2, xStl_4, xStb_3, xStb_5, xLen_s, xLen_10, xCpy_s, xIv_s, xMx_s, mCont_s, mCont_n, w32_s, w64_s, upC_e, upC_n, upC_u, upC_c, mEn_c, mEn_n, mcw_i, mcw_l, mcw_r, mcat_n, mcat_i, mcat_l, mcat_r, xlong_i, xlong_l, xlong_r, xlong_n, s1_at, s2_at, ↓reduceIte, reduceCtorEq, and_self, true_and, and_true, false_and, and_false, Bool.false_eq_true, ne_eq, not_true_eq_false, not_false_eq_true, or_true, true_or, or_false, false_or, or_self, Int.tmod_eq_emod_of_nonneg, Int.tdiv_eq_ediv_of_nonneg, Classical.not_not, xSw, rOK, b2i_ok, b2i_0, b2i_1, Nat.reduceAdd, Nat.reduceSub, Nat.reduceMul, Nat.reduceEqDiff, Nat.reduceLeDiff, Nat.reduceLT, Int.reduceAdd, Int.reduceSub, Int.reduceMul, Int.reduceNeg, Int.reduceEq, Int.reduceNe, Int.reduceLT, Int.reduceLE, Int.reduceToNat, Int.reduceTDiv, Int.reduceTMod, b2i_em, s6]
    exact hr
  | f + 1, t, M, D, u, hft, hX, hG, hu, hD, hK => by
    obtain ⟨q, hq⟩ : ∃ q, t % 2 = q := ⟨_, rfl⟩
    have hq2 : q < 2 := by omega
    have hsd : sd n (f + 1) = (q : Int) + 1 := by unfold sd; omega
    have ht1 : iAnd (t : Int) 1 = q := by rw [and1 (by unfold R32; omega)]; omega
    have s6 := hG.1
    have g3 := hG.2.2.1 q hq2
    obtain ⟨X, hXe⟩ : ∃ X, bo o p q = X := ⟨_, rfl⟩
    have hXA : (X : Int) < A 0 := by rw [← hXe]; unfold bo; split <;> assumption
    have b0 := hX.2.2.2.1.1
    have hX6 : X < 6 := by omega
    have r1 := brn_780 hX.2.2.2.1 hX.2.2.2.2.1 hX6
    have r2 := mny_12 hX.2.2.2.1 X
    have hA2 : ∀ l : Nat, l < 12 → 0 ≤ A (22 + 3 * l) ∧ A (22 + 3 * l) ≤ 60 := fun k hk => by
      have := hX.2.2.2.1.2.2.2.1 k hk
      exact ⟨this.1, this.2.1⟩
    have r3 := wPt_R (A := A) (L := L) (pl := D) (b := (q : Int) + 1) (n := n) (fun i hi => hA2 _ (hl12 i hi)) n (Nat.le_refl _)
    have r4 := cPt_R (pl := D) (b := (q : Int) + 1) n
    rw [hXe] at g3
    obtain ⟨m91, m92, m93⟩ := g3
    rw [show d + (f + 1) + 6 = d + f + 6 + 1 by omega]
    rw [b39]
    simp (disch := first | decide | omega) only [w39_0, w39_1, w39_2, w39_5, w39_8, w39_9, w39_10, w39_11, w39_12, w39_13, w39_14, w39_15, w39_18, w39_19, w39_20, w39_22, w39_23, w39_26, w39_29, w39_31, w39_32, w39_34, w39_35, w39_39, w39_40, w39_43, w39_46, w39_47, w39_49, w39_52, w39_55, w39_58, w39_59, w39_62, w39_65, w39_66, w39_69, w39_71, w39_72, w39_73, w39_75, w39_76, w39_79, w39_80, w39_81, w39_82, w39_84, w39_85, w39_86, w39_87, w39_90, w39_91, w39_92, w39_93, w39_94, w39_95, w39_96, w39_97, w39_100, w39_103, w39_105, w39_106, w39_109, w39_111, w39_112, w39_115, w39_116, w39_117, w39_118, w39_121, w39_122, w39_123, w39_126, w39_127, w39_128, w39_131, w39_132, w39_135, w39_138, w39_139, w39_140, w39_141, w39_142, w39_143, w39_144, w39_146, w39_147, w39_148, w39_151, w39_154, w39_155, w39_158, w39_159, w39_161, w39_162, w39_165, w39_166, w39_167, w39_168, w39_170, w39_171, w39_172, w39_173, w39_176, w39_177, w39_178, w39_179, w39_180, w39_181, w39_182, w39_183, w39_186, w39_189, w39_191, w39_193, w39_194, w39_196, w39_199, w39_202, w39_203, w39_206, w39_207, w39_208, w39_211, w39_213, w39_214, w39_217, w39_218, w39_219, w39_222, w39_225, w39_226, tc89, tr89_0, tr89_1, tr89_2, tr89_3, tr89_4, tr89_5, ta90, tn90, ta91, tn91, ta92, tn92, ta93, tn93, tc63, tr63_0, tr63_1, tr63_3, tr63_4, tr63_5, tr63_6, ta64, tn64, ta65, tn65, ta66, tn66, ta67, tn67, xLoad_i, xLoad_l, xLoad_r, xInc_s, xBr_t, xBr_f, xNz_s, xGf_s, xPf_s, xPz_s, xLd_2, xLd_7, xLd_10, xLdb_3, xLdb_5, xLdb_9, xLdl_4, xLdr_6, xSt_2, xStl_4, xStb_3, xStb_5, xLen_s, xLen_10, xCpy_s, xIv_s, xMx_s, mCont_s, mCont_n, w32_s, w64_s, upC_e, upC_n, upC_u, upC_c, mEn_c, mEn_n, mcw_i, mcw_l, mcw_r, mcat_n, mcat_i, mcat_l, mcat_r, xlong_i, xlong_l, xlong_r, xlong_n, s1_at, s2_at, ↓reduceIte, reduceCtorEq, and_self, true_and, and_true, false_and, and_false, Bool.false_eq_true, ne_eq, not_true_eq_false, not_false_eq_true, or_true, true_or, or_false, false_or, or_self, Int.tmod_eq_emod_of_nonneg, Int.tdiv_eq_ediv_of_nonneg, Classical.not_not, xSw, rOK, b2i_ok, b2i_0, b2i_1, Nat.reduceAdd, Nat.reduceSub, Nat.reduceMul, Nat.reduceEqDiff, Nat.reduceLeDiff, Nat.reduceLT, Int.reduceAdd, Int.reduceSub, Int.reduceMul, Int.reduceNeg, Int.reduceEq, Int.reduceNe, Int.reduceLT, Int.reduceLE, Int.reduceToNat, Int.reduceTDiv, Int.reduceTMod, b2i_em, s6, ht1, m91]
    refine loopL (P := fun k lv M' => (fr QW M M' ∧ (∀ i, i ≠ 7 → M' 89 i = M 89 i) ∧ M' 89 7 = M 89 7 ∧ (∀ q : Nat, q < 2 → M' 92 q = M 92 q ∧ M' 93 q = M 93 q) ∧ (∀ b : Nat, (b : Int) < A 0 → M' 64 b = M 64 b)) ∧ (∀ j, j < k → mvG ru A L n o p f D j ≠ 1) ∧ lv 0 = some (vr 89) ∧ lv 1 = some (vi t) ∧ lv 2 = some (vi u) ∧ lv 3 = some (vi q) ∧ lv 4 = some (vi X) ∧ lv 5 = some (vi (M 64 X)) ∧ lv 6 = some (vi (k : Nat))) (G := fun lv M' => rn (d + f + 6) 39 K 37 lv [] M') n 0 (Nat.zero_le _) _ _ ⟨⟨fr_refl, fun _ _ => rfl, rfl, fun _ _ => ⟨rfl, rfl⟩, fun _ _ => rfl⟩, fun j hj => absurd hj (by omega), ?_, ?_, ?_, ?_, ?_, ?_, ?_⟩ (fun k hk ih lv M' hI => ?_) (fun lv M' hI => ?_)
    any_goals (simp [s1_at, s2_at, mEn_c, mcw_r, mcw_i, mcw_l, xlong_i, xlong_r, xlong_l, xlong_n]; done)
    · obtain ⟨⟨hf, e89, e897, e92, e64⟩, hno, x0, x1, x2, x3, x4, x5, x6⟩ := hI
      have hX' := CX_fr hX hf (by decide)
      have hG' := GSs_c hG hf e89 e92 e64
      have f6 : M' 89 6 = n := hG'.1
      have hmore : ∀ j, mvG ru A L n o p f D k ≠ 1 → j < k + 1 → mvG ru A L n o p f D j ≠ 1 := fun j h hj => by
        by_cases e : j = k
        · rw [e]; exact h
        · exact hno j (by omega)
      have hDk := hD k hk
      rw [w39_37]
      by_cases cD : D k = 0
      · have cb : ¬ (iAnd (iShr u (k : Int)) 1 = 1) := fun g => hDk.mp g cD
        have q90 := hG'.2.1 k (by omega)
        have lk := hl12 k hk
        have wk := hA2 _ lk
        have ew := (hX'.1.2.2.2 _ lk).1
        rw [show 2 + 4 = 6 from rfl] at ew
        have p92 : M' 92 q = brn A X + wPt A L D ((q : Int) + 1) n := by rw [(e92 q hq2).1, m92]
        have p93 : M' 93 q = mny A X + cPt D ((q : Int) + 1) n := by rw [(e92 q hq2).2, m93]
        have w1 := wPt_put (A := A) (L := L) (k := k) (s := (q : Int) + 1) (c := (q : Int) + 1) cD (by omega) n
        have w2 := cPt_put (k := k) (s := (q : Int) + 1) (c := (q : Int) + 1) cD (by omega) n
        rw [if_pos ⟨hk, rfl⟩] at w1 w2
        simp (disch := first | decide | omega) only [w39_0, w39_1, w39_2, w39_5, w39_8, w39_9, w39_10, w39_11, w39_12, w39_13, w39_14, w39_15, w39_18, w39_19, w39_20, w39_22, w39_23, w39_26, w39_29, w39_31, w39_32, w39_34, w39_35, w39_39, w39_40, w39_43, w39_46, w39_47, w39_49, w39_52, w39_55, w39_58, w39_59, w39_62, w39_65, w39_66, w39_69, w39_71, w39_72, w39_73, w39_75, w39_76, w39_79, w39_80, w39_81, w39_82, w39_84, w39_85, w39_86, w39_87, w39_90, w39_91, w39_92, w39_93, w39_94, w39_95, w39_96, w39_97, w39_100, w39_103, w39_105, w39_106, w39_109, w39_111, w39_112, w39_115, w39_116, w39_117, w39_118, w39_121, w39_122, w39_123, w39_126, w39_127, w39_128, w39_131, w39_132, w39_135, w39_138, w39_139, w39_140, w39_141, w39_142, w39_143, w39_144, w39_146, w39_147, w39_148, w39_151, w39_154, w39_155, w39_158, w39_159, w39_161, w39_162, w39_165, w39_166, w39_167, w39_168, w39_170, w39_171, w39_172, w39_173, w39_176, w39_177, w39_178, w39_179, w39_180, w39_181, w39_182, w39_183, w39_186, w39_189, w39_191, w39_193, w39_194, w39_196, w39_199, w39_202, w39_203, w39_206, w39_207, w39_208, w39_211, w39_213, w39_214, w39_217, w39_218, w39_219, w39_222, w39_225, w39_226, tc89, tr89_0, tr89_1, tr89_2, tr89_3, tr89_4, tr89_5, ta90, tn90, ta91, tn91, ta92, tn92, ta93, tn93, tc63, tr63_0, tr63_1, tr63_3, tr63_4, tr63_5, tr63_6, ta64, tn64, ta65, tn65, ta66, tn66, ta67, tn67, tc2, tr2_2, tr2_3, tr2_4, tr2_5, tr2_6, tr2_7, tr2_8, tr2_9, tr2_12, tr2_13, tr2_15, ta3, tn3, ta4, tn4, ta5, tn5, ta6, tn6, ta7, tn7, ta8, tn8, ta9, tn9, ta10, tn10, ta11, tn11, ta12, tn12, ta13, tn13, xLoad_i, xLoad_l, xLoad_r, xInc_s, xBr_t, xBr_f, xNz_s, xGf_s, xPf_s, xPz_s, xLd_2, xLd_7, xLd_10, xLdb_3, xLdb_5, xLdb_9, xLdl_4, xLdr_6, xSt_2, xStl_4, xStb_3, xStb_5, xLen_s, xLen_10, xCpy_s, xIv_s, xMx_s, mCont_s, mCont_n, w32_s, w64_s, upC_e, upC_n, upC_u, upC_c, mEn_c, mEn_n, mcw_i, mcw_l, mcw_r, mcat_n, mcat_i, mcat_l, mcat_r, xlong_i, xlong_l, xlong_r, xlong_n, s1_at, s2_at, ↓reduceIte, reduceCtorEq, and_self, true_and, and_true, false_and, and_false, Bool.false_eq_true, ne_eq, not_true_eq_false, not_false_eq_true, or_true, true_or, or_false, false_or, or_self, Int.tmod_eq_emod_of_nonneg, Int.tdiv_eq_ediv_of_nonneg, Classical.not_not, xSw, rOK, b2i_ok, b2i_0, b2i_1, Nat.reduceAdd, Nat.reduceSub, Nat.reduceMul, Nat.reduceEqDiff, Nat.reduceLeDiff, Nat.reduceLT, Int.reduceAdd, Int.reduceSub, Int.reduceMul, Int.reduceNeg, Int.reduceEq, Int.reduceNe, Int.reduceLT, Int.reduceLE, Int.reduceToNat, Int.reduceTDiv, Int.reduceTMod, b2i_em, x0, x1, x2, x3, x4, x5, x6, f6, c_isIn, b2i_f, cb, q90, ew, p92, p93, mU_e]
        have hν : ntq ru A X (A (83 + (X : Nat))) (brn A X + wPt A L D ((q : Int) + 1) n + A (22 + 3 * (L.getD k 0 : Nat))) (mny A X + cPt D ((q : Int) + 1) n + 1) = ntG ru A L n o p (mU D k ((q : Int) + 1)) X := by
          have := ntG_at (ru := ru) (A := A) (L := L) (n := n) (D := mU D k ((q : Int) + 1)) hop hq2
          rw [hXe, w1, w2, ← Int.add_assoc, ← Int.add_assoc] at this
          exact this.symm
        refine a_noteOf (CX_fr hX' (show fr QW M' _ from (by (repeat (first | exact fr_refl | assumption | refine fr_up (by decide) ?_)))) (by decide)) hX6 (by omega) (by omega) (fun M1 f1 => ?_)
        rw [hν]
        have a92 := f1 92 (by decide)
        have a93 := f1 93 (by decide)
        have a64 := f1 64 (by decide)
        have a89 := f1 89 (by decide)
        simp (disch := first | decide | omega) only [upC_e, upC_n, mU_e, mU_n] at a92
        simp (disch := first | decide | omega) only [upC_e, upC_n, mU_e, mU_n] at a93
        simp (disch := first | decide | omega) only [upC_e, upC_n, mU_e, mU_n] at a64
        simp (disch := first | decide | omega) only [upC_e, upC_n, mU_e, mU_n] at a89
        have fN : fr QW M' M1 := fr_trans (show fr QW M' _ from (by (repeat (first | exact fr_refl | assumption | refine fr_up (by decide) ?_)))) (fr_mono f1 (by decide))
        clear f1
        obtain ⟨ν, hν2⟩ : ∃ ν, ntG ru A L n o p (mU D k ((q : Int) + 1)) X = ν := ⟨_, rfl⟩
        rw [hν2]
        simp (disch := first | decide | omega) only [w39_0, w39_1, w39_2, w39_5, w39_8, w39_9, w39_10, w39_11, w39_12, w39_13, w39_14, w39_15, w39_18, w39_19, w39_20, w39_22, w39_23, w39_26, w39_29, w39_31, w39_32, w39_34, w39_35, w39_39, w39_40, w39_43, w39_46, w39_47, w39_49, w39_52, w39_55, w39_58, w39_59, w39_62, w39_65, w39_66, w39_69, w39_71, w39_72, w39_73, w39_75, w39_76, w39_79, w39_80, w39_81, w39_82, w39_84, w39_85, w39_86, w39_87, w39_90, w39_91, w39_92, w39_93, w39_94, w39_95, w39_96, w39_97, w39_100, w39_103, w39_105, w39_106, w39_109, w39_111, w39_112, w39_115, w39_116, w39_117, w39_118, w39_121, w39_122, w39_123, w39_126, w39_127, w39_128, w39_131, w39_132, w39_135, w39_138, w39_139, w39_140, w39_141, w39_142, w39_143, w39_144, w39_146, w39_147, w39_148, w39_151, w39_154, w39_155, w39_158, w39_159, w39_161, w39_162, w39_165, w39_166, w39_167, w39_168, w39_170, w39_171, w39_172, w39_173, w39_176, w39_177, w39_178, w39_179, w39_180, w39_181, w39_182, w39_183, w39_186, w39_189, w39_191, w39_193, w39_194, w39_196, w39_199, w39_202, w39_203, w39_206, w39_207, w39_208, w39_211, w39_213, w39_214, w39_217, w39_218, w39_219, w39_222, w39_225, w39_226, tc89, tr89_0, tr89_1, tr89_2, tr89_3, tr89_4, tr89_5, ta90, tn90, ta91, tn91, ta92, tn92, ta93, tn93, tc63, tr63_0, tr63_1, tr63_3, tr63_4, tr63_5, tr63_6, ta64, tn64, ta65, tn65, ta66, tn66, ta67, tn67, xLoad_i, xLoad_l, xLoad_r, xInc_s, xBr_t, xBr_f, xNz_s, xGf_s, xPf_s, xPz_s, xLd_2, xLd_7, xLd_10, xLdb_3, xLdb_5, xLdb_9, xLdl_4, xLdr_6, xSt_2, xStl_4, xStb_3, xStb_5, xLen_s, xLen_10, xCpy_s, xIv_s, xMx_s, mCont_s, mCont_n, w32_s, w64_s, upC_e, upC_n, upC_u, upC_c, mEn_c, mEn_n, mcw_i, mcw_l, mcw_r, mcat_n, mcat_i, mcat_l, mcat_r, xlong_i, xlong_l, xlong_r, xlong_n, s1_at, s2_at, ↓reduceIte, reduceCtorEq, and_self, true_and, and_true, false_and, and_false, Bool.false_eq_true, ne_eq, not_true_eq_false, not_false_eq_true, or_true, true_or, or_false, false_or, or_self, Int.tmod_eq_emod_of_nonneg, Int.tdiv_eq_ediv_of_nonneg, Classical.not_not, xSw, rOK, b2i_ok, b2i_0, b2i_1, Nat.reduceAdd, Nat.reduceSub, Nat.reduceMul, Nat.reduceEqDiff, Nat.reduceLeDiff, Nat.reduceLT, Int.reduceAdd, Int.reduceSub, Int.reduceMul, Int.reduceNeg, Int.reduceEq, Int.reduceNe, Int.reduceLT, Int.reduceLE, Int.reduceToNat, Int.reduceTDiv, Int.reduceTMod, b2i_em, x0, x1, x2, x3, x4, x5, x6, a64]
        refine a_findFalse (en := 1) (nt := ntG ru A L n o p (mU D k ((q : Int) + 1))) (CX_fr hX' (show fr QW M' _ from fr_up (by decide) fN) (by decide)) (fun b hb => ⟨?_, ntG_R⟩) (by decide) (fun M2 f2 _ => ?_)
        · rw [upC_e]
          by_cases e : b = X
          · rw [e, mU_e, hν2]
          · rw [mU_n (by omega), ntG_put cD hq2 (by rw [hXe]; omega)]
            exact hG'.2.2.2 b hb
        · have c92 : M2 92 = M1 92 := by have := f2 92 (by decide); simp (disch := first | decide | omega) only [upC_e, upC_n, mU_e, mU_n] at this; exact this
          have c93 : M2 93 = M1 93 := by have := f2 93 (by decide); simp (disch := first | decide | omega) only [upC_e, upC_n, mU_e, mU_n] at this; exact this
          have c64 : M2 64 = mU (M' 64) X ν := by have := f2 64 (by decide); simp (disch := first | decide | omega) only [upC_e, upC_n, mU_e, mU_n] at this; exact this
          have c89 : M2 89 = M' 89 := by have := f2 89 (by decide); simp (disch := first | decide | omega) only [upC_e, upC_n, mU_e, mU_n] at this; rw [this, a89]
          rw [a92] at c92
          rw [a93] at c93
          have fM2 : fr QW M M2 := fr_trans hf (fr_trans (show fr QW M' _ from fr_up (by decide) fN) (fr_mono f2 (by decide)))
          clear f2 fN a92 a93 a64 a89
          have hX2 := CX_fr hX fM2 (by decide)
          have hres : ∀ M3, fr QW M M3 → (∀ i, i ≠ 7 → M3 89 i = M 89 i) → M3 89 7 = M 89 7 → (∀ j : Nat, j < 2 → M3 92 j = M2 92 j ∧ M3 93 j = M2 93 j) → (∀ b : Nat, (b : Int) < A 0 → M3 64 b = M2 64 b) → (fun N : mM => fr QW M N ∧ (∀ i, i ≠ 7 → N 89 i = M 89 i) ∧ N 89 7 = M 89 7 ∧ (∀ q : Nat, q < 2 → N 92 q = M 92 q ∧ N 93 q = M 93 q) ∧ (∀ b : Nat, (b : Int) < A 0 → N 64 b = M 64 b)) (upC (upC (upC M3 64 (mU (M3 64) X (M 64 X))) 92 (mU (M3 92) q (brn A X + wPt A L D ((q : Int) + 1) n))) 93 (mU (M3 93) q (mny A X + cPt D ((q : Int) + 1) n))) := fun M3 h1 h2 h3 h4 h5 => by
            refine ⟨fr_up (by decide) (fr_up (by decide) (fr_up (by decide) h1)), fun i hi => ?_, ?_, fun j hj => ?_, fun b hb => ?_⟩
            · simp (disch := first | decide | omega) only [upC_e, upC_n, mU_e, mU_n]
              exact h2 i hi
            · simp (disch := first | decide | omega) only [upC_e, upC_n, mU_e, mU_n]
              exact h3
            · have hj2 := h4 j hj
              simp (disch := first | decide | omega) only [upC_e, upC_n, mU_e, mU_n]
              by_cases e : j = q
              · rw [e, mU_e, mU_e, m92, m93]
                exact ⟨rfl, rfl⟩
              · rw [mU_n (by omega), mU_n (by omega), hj2.1, hj2.2, c92, c93, mU_n (by omega), mU_n (by omega)]
                exact e92 j hj
            · simp (disch := first | decide | omega) only [upC_e, upC_n, mU_e, mU_n]
              by_cases e : b = X
              · rw [e, mU_e]
              · rw [mU_n (by omega), h5 b hb, c64, mU_n (by omega), e64 b hb]
          have d92 : M2 92 q = brn A X + wPt A L D ((q : Int) + 1) n + A (22 + 3 * (L.getD k 0 : Nat)) := by rw [c92, mU_e]
          have d93 : M2 93 q = mny A X + cPt D ((q : Int) + 1) n + 1 := by rw [c93, mU_e]
          by_cases cF : fG ru A L n o p (mU D k ((q : Int) + 1)) = 0
          · rw [show min (cn (fpG ru A (ntG ru A L n o p (mU D k ((q : Int) + 1)))) 36) 1 = 0 by unfold fG at cF; omega]
            simp (disch := first | decide | omega) only [w39_0, w39_1, w39_2, w39_5, w39_8, w39_9, w39_10, w39_11, w39_12, w39_13, w39_14, w39_15, w39_18, w39_19, w39_20, w39_22, w39_23, w39_26, w39_29, w39_31, w39_32, w39_34, w39_35, w39_39, w39_40, w39_43, w39_46, w39_47, w39_49, w39_52, w39_55, w39_58, w39_59, w39_62, w39_65, w39_66, w39_69, w39_71, w39_72, w39_73, w39_75, w39_76, w39_79, w39_80, w39_81, w39_82, w39_84, w39_85, w39_86, w39_87, w39_90, w39_91, w39_92, w39_93, w39_94, w39_95, w39_96, w39_97, w39_100, w39_103, w39_105, w39_106, w39_109, w39_111, w39_112, w39_115, w39_116, w39_117, w39_118, w39_121, w39_122, w39_123, w39_126, w39_127, w39_128, w39_131, w39_132, w39_135, w39_138, w39_139, w39_140, w39_141, w39_142, w39_143, w39_144, w39_146, w39_147, w39_148, w39_151, w39_154, w39_155, w39_158, w39_159, w39_161, w39_162, w39_165, w39_166, w39_167, w39_168, w39_170, w39_171, w39_172, w39_173, w39_176, w39_177, w39_178, w39_179, w39_180, w39_181, w39_182, w39_183, w39_186, w39_189, w39_191, w39_193, w39_194, w39_196, w39_199, w39_202, w39_203, w39_206, w39_207, w39_208, w39_211, w39_213, w39_214, w39_217, w39_218, w39_219, w39_222, w39_225, w39_226, tc89, tr89_0, tr89_1, tr89_2, tr89_3, tr89_4, tr89_5, ta90, tn90, ta91, tn91, ta92, tn92, ta93, tn93, tc63, tr63_0, tr63_1, tr63_3, tr63_4, tr63_5, tr63_6, ta64, tn64, ta65, tn65, ta66, tn66, ta67, tn67, xLoad_i, xLoad_l, xLoad_r, xInc_s, xBr_t, xBr_f, xNz_s, xGf_s, xPf_s, xPz_s, xLd_2, xLd_7, xLd_10, xLdb_3, xLdb_5, xLdb_9, xLdl_4, xLdr_6, xSt_2, xStl_4, xStb_3, xStb_5, xLen_s, xLen_10, xCpy_s, xIv_s, xMx_s, mCont_s, mCont_n, w32_s, w64_s, upC_e, upC_n, upC_u, upC_c, mEn_c, mEn_n, mcw_i, mcw_l, mcw_r, mcat_n, mcat_i, mcat_l, mcat_r, xlong_i, xlong_l, xlong_r, xlong_n, s1_at, s2_at, ↓reduceIte, reduceCtorEq, and_self, true_and, and_true, false_and, and_false, Bool.false_eq_true, ne_eq, not_true_eq_false, not_false_eq_true, or_true, true_or, or_false, false_or, or_self, Int.tmod_eq_emod_of_nonneg, Int.tdiv_eq_ediv_of_nonneg, Classical.not_not, xSw, rOK, b2i_ok, b2i_0, b2i_1, Nat.reduceAdd, Nat.reduceSub, Nat.reduceMul, Nat.reduceEqDiff, Nat.reduceLeDiff, Nat.reduceLT, Int.reduceAdd, Int.reduceSub, Int.reduceMul, Int.reduceNeg, Int.reduceEq, Int.reduceNe, Int.reduceLT, Int.reduceLE, Int.reduceToNat, Int.reduceTDiv, Int.reduceTMod, b2i_em, x0, x1, x2, x3, x4, x5, x6]
            rw [show (t : Int) + 1 = ((t + 1 : Nat) : Int) by omega]
            refine c_wins n1 n6 hl hl12 hop ho hp f (t + 1) M2 (mU D k ((q : Int) + 1)) (iOr u (iShl 1 (k : Int))) (by omega) hX2 ⟨by rw [c89]; exact f6, by rw [fM2 90 (by decide)]; exact hG.2.1, fun j hj => ?_, fun b hb => ?_⟩ (set_R hu (by omega)) (fun j hj => ?_) (fun M3 f3 a89 a897 a92 a64 => ?_)
            · have hj3 := hG'.2.2.1 j hj
              rw [fM2 91 (by decide), c92, c93]
              refine ⟨(hG.2.2.1 j hj).1, ?_, ?_⟩
              · by_cases e : j = q
                · rw [e, mU_e, hXe, w1, Int.add_assoc]
                · rw [mU_n (by omega), wPt_put cD (by omega), if_neg (by omega), Int.add_zero]
                  exact hj3.2.1
              · by_cases e : j = q
                · rw [e, mU_e, hXe, w2, Int.add_assoc]
                · rw [mU_n (by omega), cPt_put cD (by omega), if_neg (by omega), Int.add_zero]
                  exact hj3.2.2
            · rw [c64]
              by_cases e : b = X
              · rw [e, mU_e, hν2]
              · rw [mU_n (by omega), ntG_put cD hq2 (by rw [hXe]; omega)]
                exact hG'.2.2.2 b hb
            · rw [set_at hu (by omega) (by omega)]
              by_cases e : j = k
              · rw [if_pos e, e, mU_e]
                exact ⟨fun _ => by omega, fun _ => rfl⟩
              · rw [if_neg e, mU_n (by omega)]
                exact hD j hj
            · rw [if_neg (by omega)] at a897
              have fM3 : fr QW M M3 := fr_trans fM2 f3
              have k92 : M3 92 q = brn A X + wPt A L D ((q : Int) + 1) n + A (22 + 3 * (L.getD k 0 : Nat)) := by rw [(a92 q hq2).1, d92]
              have k93 : M3 93 q = mny A X + cPt D ((q : Int) + 1) n + 1 := by rw [(a92 q hq2).2, d93]
              have hR := hres M3 fM3 (fun i hi => by rw [a89 i hi, c89, e89 i hi]) (by rw [a897, c89, e897]) a92 a64
              rcases winR_01 (ru := ru) (A := A) (L := L) (n := n) (o := o) (p := p) (D := mU D k ((q : Int) + 1)) f with e | e
              · have hm : mvG ru A L n o p f D k = 1 := mvG_1.mpr ⟨cD, by rw [hsd]; exact cF, by rw [hsd]; exact e⟩
                have hls := ls_hit (ls_no k hno) hm hk
                have hw : winR ru A L n o p (f + 1) D = 1 := by
                  have := cn_lt hk hm
                  rw [winR_s, if_neg (by omega)]
                rw [hw] at hK
                rw [e]
                obtain ⟨z1, z2, z3, z4, z5⟩ := hR
                by_cases ct : t = 0
                · subst ct
                  have q90' : M3 90 k = ((L.getD k 0 : Nat) : Int) := by rw [fM3 90 (by decide)]; exact hG.2.1 k (by omega)
                  have y89 : ∀ i, i ≠ 7 → M3 89 i = M 89 i := fun i hi => by rw [a89 i hi, c89, e89 i hi]
                  have hls' : ls (mvG ru A L n o p (f + 1 - 1) D) n = k := hls
                  simp (disch := first | decide | omega) only [w39_0, w39_1, w39_2, w39_5, w39_8, w39_9, w39_10, w39_11, w39_12, w39_13, w39_14, w39_15, w39_18, w39_19, w39_20, w39_22, w39_23, w39_26, w39_29, w39_31, w39_32, w39_34, w39_35, w39_39, w39_40, w39_43, w39_46, w39_47, w39_49, w39_52, w39_55, w39_58, w39_59, w39_62, w39_65, w39_66, w39_69, w39_71, w39_72, w39_73, w39_75, w39_76, w39_79, w39_80, w39_81, w39_82, w39_84, w39_85, w39_86, w39_87, w39_90, w39_91, w39_92, w39_93, w39_94, w39_95, w39_96, w39_97, w39_100, w39_103, w39_105, w39_106, w39_109, w39_111, w39_112, w39_115, w39_116, w39_117, w39_118, w39_121, w39_122, w39_123, w39_126, w39_127, w39_128, w39_131, w39_132, w39_135, w39_138, w39_139, w39_140, w39_141, w39_142, w39_143, w39_144, w39_146, w39_147, w39_148, w39_151, w39_154, w39_155, w39_158, w39_159, w39_161, w39_162, w39_165, w39_166, w39_167, w39_168, w39_170, w39_171, w39_172, w39_173, w39_176, w39_177, w39_178, w39_179, w39_180, w39_181, w39_182, w39_183, w39_186, w39_189, w39_191, w39_193, w39_194, w39_196, w39_199, w39_202, w39_203, w39_206, w39_207, w39_208, w39_211, w39_213, w39_214, w39_217, w39_218, w39_219, w39_222, w39_225, w39_226, tc89, tr89_0, tr89_1, tr89_2, tr89_3, tr89_4, tr89_5, ta90, tn90, ta91, tn91, ta92, tn92, ta93, tn93, tc63, tr63_0, tr63_1, tr63_3, tr63_4, tr63_5, tr63_6, ta64, tn64, ta65, tn65, ta66, tn66, ta67, tn67, xLoad_i, xLoad_l, xLoad_r, xInc_s, xBr_t, xBr_f, xNz_s, xGf_s, xPf_s, xPz_s, xLd_2, xLd_7, xLd_10, xLdb_3, xLdb_5, xLdb_9, xLdl_4, xLdr_6, xSt_2, xStl_4, xStb_3, xStb_5, xLen_s, xLen_10, xCpy_s, xIv_s, xMx_s, mCont_s, mCont_n, w32_s, w64_s, upC_e, upC_n, upC_u, upC_c, mEn_c, mEn_n, mcw_i, mcw_l, mcw_r, mcat_n, mcat_i, mcat_l, mcat_r, xlong_i, xlong_l, xlong_r, xlong_n, s1_at, s2_at, ↓reduceIte, reduceCtorEq, and_self, true_and, and_true, false_and, and_false, Bool.false_eq_true, ne_eq, not_true_eq_false, not_false_eq_true, or_true, true_or, or_false, false_or, or_self, Int.tmod_eq_emod_of_nonneg, Int.tdiv_eq_ediv_of_nonneg, Classical.not_not, xSw, rOK, b2i_ok, b2i_0, b2i_1, Nat.reduceAdd, Nat.reduceSub, Nat.reduceMul, Nat.reduceEqDiff, Nat.reduceLeDiff, Nat.reduceLT, Int.reduceAdd, Int.reduceSub, Int.reduceMul, Int.reduceNeg, Int.reduceEq, Int.reduceNe, Int.reduceLT, Int.reduceLE, Int.reduceToNat, Int.reduceTDiv, Int.reduceTMod, b2i_em, x0, x1, x2, x3, x4, x5, x6, k92, k93, Int.add_sub_cancel, q90']
                  refine hK _ (by (repeat (first | exact fr_refl | assumption | refine fr_up (by decide) ?_))) (fun i hi => ?_) ?_ (fun j hj => ?_) (fun b hb => ?_)
                  · simp (disch := first | decide | omega) only [upC_e, upC_n, mU_e, mU_n]
                    exact y89 i hi
                  · simp (disch := first | decide | omega) only [upC_e, upC_n, mU_e, mU_n]
                    rw [if_pos ⟨trivial, trivial⟩, hls']
                    rfl
                  · have := z4 j hj
                    simp (disch := first | decide | omega) only [upC_e, upC_n, mU_e, mU_n] at this
                    simp (disch := first | decide | omega) only [upC_e, upC_n, mU_e, mU_n]
                    exact this
                  · have := z5 b hb
                    simp (disch := first | decide | omega) only [upC_e, upC_n, mU_e, mU_n] at this
                    simp (disch := first | decide | omega) only [upC_e, upC_n, mU_e, mU_n]
                    exact this
                · simp (disch := first | decide | omega) only [w39_0, w39_1, w39_2, w39_5, w39_8, w39_9, w39_10, w39_11, w39_12, w39_13, w39_14, w39_15, w39_18, w39_19, w39_20, w39_22, w39_23, w39_26, w39_29, w39_31, w39_32, w39_34, w39_35, w39_39, w39_40, w39_43, w39_46, w39_47, w39_49, w39_52, w39_55, w39_58, w39_59, w39_62, w39_65, w39_66, w39_69, w39_71, w39_72, w39_73, w39_75, w39_76, w39_79, w39_80, w39_81, w39_82, w39_84, w39_85, w39_86, w39_87, w39_90, w39_91, w39_92, w39_93, w39_94, w39_95, w39_96, w39_97, w39_100, w39_103, w39_105, w39_106, w39_109, w39_111, w39_112, w39_115, w39_116, w39_117, w39_118, w39_121, w39_122, w39_123, w39_126, w39_127, w39_128, w39_131, w39_132, w39_135, w39_138, w39_139, w39_140, w39_141, w39_142, w39_143, w39_144, w39_146, w39_147, w39_148, w39_151, w39_154, w39_155, w39_158, w39_159, w39_161, w39_162, w39_165, w39_166, w39_167, w39_168, w39_170, w39_171, w39_172, w39_173, w39_176, w39_177, w39_178, w39_179, w39_180, w39_181, w39_182, w39_183, w39_186, w39_189, w39_191, w39_193, w39_194, w39_196, w39_199, w39_202, w39_203, w39_206, w39_207, w39_208, w39_211, w39_213, w39_214, w39_217, w39_218, w39_219, w39_222, w39_225, w39_226, tc89, tr89_0, tr89_1, tr89_2, tr89_3, tr89_4, tr89_5, ta90, tn90, ta91, tn91, ta92, tn92, ta93, tn93, tc63, tr63_0, tr63_1, tr63_3, tr63_4, tr63_5, tr63_6, ta64, tn64, ta65, tn65, ta66, tn66, ta67, tn67, xLoad_i, xLoad_l, xLoad_r, xInc_s, xBr_t, xBr_f, xNz_s, xGf_s, xPf_s, xPz_s, xLd_2, xLd_7, xLd_10, xLdb_3, xLdb_5, xLdb_9, xLdl_4, xLdr_6, xSt_2, xStl_4, xStb_3, xStb_5, xLen_s, xLen_10, xCpy_s, xIv_s, xMx_s, mCont_s, mCont_n, w32_s, w64_s, upC_e, upC_n, upC_u, upC_c, mEn_c, mEn_n, mcw_i, mcw_l, mcw_r, mcat_n, mcat_i, mcat_l, mcat_r, xlong_i, xlong_l, xlong_r, xlong_n, s1_at, s2_at, ↓reduceIte, reduceCtorEq, and_self, true_and, and_true, false_and, and_false, Bool.false_eq_true, ne_eq, not_true_eq_false, not_false_eq_true, or_true, true_or, or_false, false_or, or_self, Int.tmod_eq_emod_of_nonneg, Int.tdiv_eq_ediv_of_nonneg, Classical.not_not, xSw, rOK, b2i_ok, b2i_0, b2i_1, Nat.reduceAdd, Nat.reduceSub, Nat.reduceMul, Nat.reduceEqDiff, Nat.reduceLeDiff, Nat.reduceLT, Int.reduceAdd, Int.reduceSub, Int.reduceMul, Int.reduceNeg, Int.reduceEq, Int.reduceNe, Int.reduceLT, Int.reduceLE, Int.reduceToNat, Int.reduceTDiv, Int.reduceTMod, b2i_em, x0, x1, x2, x3, x4, x5, x6, k92, k93, Int.add_sub_cancel]
                  refine hK _ z1 z2 (by rw [if_neg (fun g => ct g.1)]; exact z3) z4 z5
              · have hm : mvG ru A L n o p f D k ≠ 1 := fun g => by
                  have := (mvG_1.mp g).2.2
                  rw [hsd, e] at this
                  cases this
                rw [e]
                simp (disch := first | decide | omega) only [w39_0, w39_1, w39_2, w39_5, w39_8, w39_9, w39_10, w39_11, w39_12, w39_13, w39_14, w39_15, w39_18, w39_19, w39_20, w39_22, w39_23, w39_26, w39_29, w39_31, w39_32, w39_34, w39_35, w39_39, w39_40, w39_43, w39_46, w39_47, w39_49, w39_52, w39_55, w39_58, w39_59, w39_62, w39_65, w39_66, w39_69, w39_71, w39_72, w39_73, w39_75, w39_76, w39_79, w39_80, w39_81, w39_82, w39_84, w39_85, w39_86, w39_87, w39_90, w39_91, w39_92, w39_93, w39_94, w39_95, w39_96, w39_97, w39_100, w39_103, w39_105, w39_106, w39_109, w39_111, w39_112, w39_115, w39_116, w39_117, w39_118, w39_121, w39_122, w39_123, w39_126, w39_127, w39_128, w39_131, w39_132, w39_135, w39_138, w39_139, w39_140, w39_141, w39_142, w39_143, w39_144, w39_146, w39_147, w39_148, w39_151, w39_154, w39_155, w39_158, w39_159, w39_161, w39_162, w39_165, w39_166, w39_167, w39_168, w39_170, w39_171, w39_172, w39_173, w39_176, w39_177, w39_178, w39_179, w39_180, w39_181, w39_182, w39_183, w39_186, w39_189, w39_191, w39_193, w39_194, w39_196, w39_199, w39_202, w39_203, w39_206, w39_207, w39_208, w39_211, w39_213, w39_214, w39_217, w39_218, w39_219, w39_222, w39_225, w39_226, tc89, tr89_0, tr89_1, tr89_2, tr89_3, tr89_4, tr89_5, ta90, tn90, ta91, tn91, ta92, tn92, ta93, tn93, tc63, tr63_0, tr63_1, tr63_3, tr63_4, tr63_5, tr63_6, ta64, tn64, ta65, tn65, ta66, tn66, ta67, tn67, xLoad_i, xLoad_l, xLoad_r, xInc_s, xBr_t, xBr_f, xNz_s, xGf_s, xPf_s, xPz_s, xLd_2, xLd_7, xLd_10, xLdb_3, xLdb_5, xLdb_9, xLdl_4, xLdr_6, xSt_2, xStl_4, xStb_3, xStb_5, xLen_s, xLen_10, xCpy_s, xIv_s, xMx_s, mCont_s, mCont_n, w32_s, w64_s, upC_e, upC_n, upC_u, upC_c, mEn_c, mEn_n, mcw_i, mcw_l, mcw_r, mcat_n, mcat_i, mcat_l, mcat_r, xlong_i, xlong_l, xlong_r, xlong_n, s1_at, s2_at, ↓reduceIte, reduceCtorEq, and_self, true_and, and_true, false_and, and_false, Bool.false_eq_true, ne_eq, not_true_eq_false, not_false_eq_true, or_true, true_or, or_false, false_or, or_self, Int.tmod_eq_emod_of_nonneg, Int.tdiv_eq_ediv_of_nonneg, Classical.not_not, xSw, rOK, b2i_ok, b2i_0, b2i_1, Nat.reduceAdd, Nat.reduceSub, Nat.reduceMul, Nat.reduceEqDiff, Nat.reduceLeDiff, Nat.reduceLT, Int.reduceAdd, Int.reduceSub, Int.reduceMul, Int.reduceNeg, Int.reduceEq, Int.reduceNe, Int.reduceLT, Int.reduceLE, Int.reduceToNat, Int.reduceTDiv, Int.reduceTMod, b2i_em, x0, x1, x2, x3, x4, x5, x6, k92, k93, Int.add_sub_cancel]
                refine ih _ _ ⟨hR, fun j => hmore j hm, ?_, ?_, ?_, ?_, ?_, ?_, ?_⟩
                all_goals simp [s1_at, s2_at, mEn_c, mcw_r, mcw_i, mcw_l, xlong_i, xlong_r, xlong_l, xlong_n, x0, x1, x2, x3, x4, x5, x6]
          · have hm : mvG ru A L n o p f D k ≠ 1 := fun g => cF (by rw [← hsd]; exact (mvG_1.mp g).2.1)
            rw [show min (cn (fpG ru A (ntG ru A L n o p (mU D k ((q : Int) + 1)))) 36) 1 = 1 by unfold fG at cF; omega]
            have hR := hres M2 fM2 (fun i hi => by rw [c89, e89 i hi]) (by rw [c89, e897]) (fun _ _ => ⟨rfl, rfl⟩) (fun _ _ => rfl)
            simp (disch := first | decide | omega) only [w39_0, w39_1, w39_2, w39_5, w39_8, w39_9, w39_10, w39_11, w39_12, w39_13, w39_14, w39_15, w39_18, w39_19, w39_20, w39_22, w39_23, w39_26, w39_29, w39_31, w39_32, w39_34, w39_35, w39_39, w39_40, w39_43, w39_46, w39_47, w39_49, w39_52, w39_55, w39_58, w39_59, w39_62, w39_65, w39_66, w39_69, w39_71, w39_72, w39_73, w39_75, w39_76, w39_79, w39_80, w39_81, w39_82, w39_84, w39_85, w39_86, w39_87, w39_90, w39_91, w39_92, w39_93, w39_94, w39_95, w39_96, w39_97, w39_100, w39_103, w39_105, w39_106, w39_109, w39_111, w39_112, w39_115, w39_116, w39_117, w39_118, w39_121, w39_122, w39_123, w39_126, w39_127, w39_128, w39_131, w39_132, w39_135, w39_138, w39_139, w39_140, w39_141, w39_142, w39_143, w39_144, w39_146, w39_147, w39_148, w39_151, w39_154, w39_155, w39_158, w39_159, w39_161, w39_162, w39_165, w39_166, w39_167, w39_168, w39_170, w39_171, w39_172, w39_173, w39_176, w39_177, w39_178, w39_179, w39_180, w39_181, w39_182, w39_183, w39_186, w39_189, w39_191, w39_193, w39_194, w39_196, w39_199, w39_202, w39_203, w39_206, w39_207, w39_208, w39_211, w39_213, w39_214, w39_217, w39_218, w39_219, w39_222, w39_225, w39_226, tc89, tr89_0, tr89_1, tr89_2, tr89_3, tr89_4, tr89_5, ta90, tn90, ta91, tn91, ta92, tn92, ta93, tn93, tc63, tr63_0, tr63_1, tr63_3, tr63_4, tr63_5, tr63_6, ta64, tn64, ta65, tn65, ta66, tn66, ta67, tn67, xLoad_i, xLoad_l, xLoad_r, xInc_s, xBr_t, xBr_f, xNz_s, xGf_s, xPf_s, xPz_s, xLd_2, xLd_7, xLd_10, xLdb_3, xLdb_5, xLdb_9, xLdl_4, xLdr_6, xSt_2, xStl_4, xStb_3, xStb_5, xLen_s, xLen_10, xCpy_s, xIv_s, xMx_s, mCont_s, mCont_n, w32_s, w64_s, upC_e, upC_n, upC_u, upC_c, mEn_c, mEn_n, mcw_i, mcw_l, mcw_r, mcat_n, mcat_i, mcat_l, mcat_r, xlong_i, xlong_l, xlong_r, xlong_n, s1_at, s2_at, ↓reduceIte, reduceCtorEq, and_self, true_and, and_true, false_and, and_false, Bool.false_eq_true, ne_eq, not_true_eq_false, not_false_eq_true, or_true, true_or, or_false, false_or, or_self, Int.tmod_eq_emod_of_nonneg, Int.tdiv_eq_ediv_of_nonneg, Classical.not_not, xSw, rOK, b2i_ok, b2i_0, b2i_1, Nat.reduceAdd, Nat.reduceSub, Nat.reduceMul, Nat.reduceEqDiff, Nat.reduceLeDiff, Nat.reduceLT, Int.reduceAdd, Int.reduceSub, Int.reduceMul, Int.reduceNeg, Int.reduceEq, Int.reduceNe, Int.reduceLT, Int.reduceLE, Int.reduceToNat, Int.reduceTDiv, Int.reduceTMod, b2i_em, x0, x1, x2, x3, x4, x5, x6, d92, d93, Int.add_sub_cancel]
            refine ih _ _ ⟨hR, fun j => hmore j hm, ?_, ?_, ?_, ?_, ?_, ?_, ?_⟩
            all_goals simp [s1_at, s2_at, mEn_c, mcw_r, mcw_i, mcw_l, xlong_i, xlong_r, xlong_l, xlong_n, x0, x1, x2, x3, x4, x5, x6]
      · have cb : iAnd (iShr u (k : Int)) 1 = 1 := hDk.mpr cD
        simp (disch := first | decide | omega) only [w39_0, w39_1, w39_2, w39_5, w39_8, w39_9, w39_10, w39_11, w39_12, w39_13, w39_14, w39_15, w39_18, w39_19, w39_20, w39_22, w39_23, w39_26, w39_29, w39_31, w39_32, w39_34, w39_35, w39_39, w39_40, w39_43, w39_46, w39_47, w39_49, w39_52, w39_55, w39_58, w39_59, w39_62, w39_65, w39_66, w39_69, w39_71, w39_72, w39_73, w39_75, w39_76, w39_79, w39_80, w39_81, w39_82, w39_84, w39_85, w39_86, w39_87, w39_90, w39_91, w39_92, w39_93, w39_94, w39_95, w39_96, w39_97, w39_100, w39_103, w39_105, w39_106, w39_109, w39_111, w39_112, w39_115, w39_116, w39_117, w39_118, w39_121, w39_122, w39_123, w39_126, w39_127, w39_128, w39_131, w39_132, w39_135, w39_138, w39_139, w39_140, w39_141, w39_142, w39_143, w39_144, w39_146, w39_147, w39_148, w39_151, w39_154, w39_155, w39_158, w39_159, w39_161, w39_162, w39_165, w39_166, w39_167, w39_168, w39_170, w39_171, w39_172, w39_173, w39_176, w39_177, w39_178, w39_179, w39_180, w39_181, w39_182, w39_183, w39_186, w39_189, w39_191, w39_193, w39_194, w39_196, w39_199, w39_202, w39_203, w39_206, w39_207, w39_208, w39_211, w39_213, w39_214, w39_217, w39_218, w39_219, w39_222, w39_225, w39_226, tc89, tr89_0, tr89_1, tr89_2, tr89_3, tr89_4, tr89_5, ta90, tn90, ta91, tn91, ta92, tn92, ta93, tn93, tc63, tr63_0, tr63_1, tr63_3, tr63_4, tr63_5, tr63_6, ta64, tn64, ta65, tn65, ta66, tn66, ta67, tn67, xLoad_i, xLoad_l, xLoad_r, xInc_s, xBr_t, xBr_f, xNz_s, xGf_s, xPf_s, xPz_s, xLd_2, xLd_7, xLd_10, xLdb_3, xLdb_5, xLdb_9, xLdl_4, xLdr_6, xSt_2, xStl_4, xStb_3, xStb_5, xLen_s, xLen_10, xCpy_s, xIv_s, xMx_s, mCont_s, mCont_n, w32_s, w64_s, upC_e, upC_n, upC_u, upC_c, mEn_c, mEn_n, mcw_i, mcw_l, mcw_r, mcat_n, mcat_i, mcat_l, mcat_r, xlong_i, xlong_l, xlong_r, xlong_n, s1_at, s2_at, ↓reduceIte, reduceCtorEq, and_self, true_and, and_true, false_and, and_false, Bool.false_eq_true, ne_eq, not_true_eq_false, not_false_eq_true, or_true, true_or, or_false, false_or, or_self, Int.tmod_eq_emod_of_nonneg, Int.tdiv_eq_ediv_of_nonneg, Classical.not_not, xSw, rOK, b2i_ok, b2i_0, b2i_1, Nat.reduceAdd, Nat.reduceSub, Nat.reduceMul, Nat.reduceEqDiff, Nat.reduceLeDiff, Nat.reduceLT, Int.reduceAdd, Int.reduceSub, Int.reduceMul, Int.reduceNeg, Int.reduceEq, Int.reduceNe, Int.reduceLT, Int.reduceLE, Int.reduceToNat, Int.reduceTDiv, Int.reduceTMod, b2i_em, x0, x1, x2, x3, x4, x5, x6, f6, c_isIn, b2i_t, cb]
        refine ih _ _ ⟨⟨hf, e89, e897, e92, e64⟩, fun j => hmore j (fun g => cD (mvG_1.mp g).1), ?_, ?_, ?_, ?_, ?_, ?_, ?_⟩
        all_goals simp [s1_at, s2_at, mEn_c, mcw_r, mcw_i, mcw_l, xlong_i, xlong_r, xlong_l, xlong_n, x0, x1, x2, x3, x4, x5, x6]
    · obtain ⟨⟨hf, e89, e897, e92, e64⟩, hno, x0, x1, x2, x3, x4, x5, x6⟩ := hI
      have f6 : M' 89 6 = n := by rw [e89 6 (by decide), s6]
      have hw : winR ru A L n o p (f + 1) D = 0 := by rw [winR_s, if_pos (cn_0.mpr hno)]
      have hr := hK M' hf e89 (by rw [e897, hw, if_neg (fun g => absurd g.2 (by decide))]) e92 e64
      rw [hw] at hr
      rw [w39_37]
      simp (disch := first | decide | omega) only [w39_0, w39_1, w39_2, w39_5, w39_8, w39_9, w39_10, w39_11, w39_12, w39_13, w39_14, w39_15, w39_18, w39_19, w39_20, w39_22, w39_23, w39_26, w39_29, w39_31, w39_32, w39_34, w39_35, w39_39, w39_40, w39_43, w39_46, w39_47, w39_49, w39_52, w39_55, w39_58, w39_59, w39_62, w39_65, w39_66, w39_69, w39_71, w39_72, w39_73, w39_75, w39_76, w39_79, w39_80, w39_81, w39_82, w39_84, w39_85, w39_86, w39_87, w39_90, w39_91, w39_92, w39_93, w39_94, w39_95, w39_96, w39_97, w39_100, w39_103, w39_105, w39_106, w39_109, w39_111, w39_112, w39_115, w39_116, w39_117, w39_118, w39_121, w39_122, w39_123, w39_126, w39_127, w39_128, w39_131, w39_132, w39_135, w39_138, w39_139, w39_140, w39_141, w39_142, w39_143, w39_144, w39_146, w39_147, w39_148, w39_151, w39_154, w39_155, w39_158, w39_159, w39_161, w39_162, w39_165, w39_166, w39_167, w39_168, w39_170, w39_171, w39_172, w39_173, w39_176, w39_177, w39_178, w39_179, w39_180, w39_181, w39_182, w39_183, w39_186, w39_189, w39_191, w39_193, w39_194, w39_196, w39_199, w39_202, w39_203, w39_206, w39_207, w39_208, w39_211, w39_213, w39_214, w39_217, w39_218, w39_219, w39_222, w39_225, w39_226, tc89, tr89_0, tr89_1, tr89_2, tr89_3, tr89_4, tr89_5, ta90, tn90, ta91, tn91, ta92, tn92, ta93, tn93, tc63, tr63_0, tr63_1, tr63_3, tr63_4, tr63_5, tr63_6, ta64, tn64, ta65, tn65, ta66, tn66, ta67, tn67, xLoad_i, xLoad_l, xLoad_r, xInc_s, xBr_t, xBr_f, xNz_s, xGf_s, xPf_s, xPz_s, xLd_2, xLd_7, xLd_10, xLdb_3, xLdb_5, xLdb_9, xLdl_4, xLdr_6, xSt_2, xStl_4, xStb_3, xStb_5, xLen_s, xLen_10, xCpy_s, xIv_s, xMx_s, mCont_s, mCont_n, w32_s, w64_s, upC_e, upC_n, upC_u, upC_c, mEn_c, mEn_n, mcw_i, mcw_l, mcw_r, mcat_n, mcat_i, mcat_l, mcat_r, xlong_i, xlong_l, xlong_r, xlong_n, s1_at, s2_at, ↓reduceIte, reduceCtorEq, and_self, true_and, and_true, false_and, and_false, Bool.false_eq_true, ne_eq, not_true_eq_false, not_false_eq_true, or_true, true_or, or_false, false_or, or_self, Int.tmod_eq_emod_of_nonneg, Int.tdiv_eq_ediv_of_nonneg, Classical.not_not, xSw, rOK, b2i_ok, b2i_0, b2i_1, Nat.reduceAdd, Nat.reduceSub, Nat.reduceMul, Nat.reduceEqDiff, Nat.reduceLeDiff, Nat.reduceLT, Int.reduceAdd, Int.reduceSub, Int.reduceMul, Int.reduceNeg, Int.reduceEq, Int.reduceNe, Int.reduceLT, Int.reduceLE, Int.reduceToNat, Int.reduceTDiv, Int.reduceTMod, b2i_em, x0, x1, x2, x3, x4, x5, x6, f6]
      exact hr
