def isSc (S : Nat) : Prop := S = 27 ∨ S = 35 ∨ S = 43 ∨ S = 51
theorem sc_c {S : Nat} (h : isSc S) : clO S = 8 := by rcases h with rfl | rfl | rfl | rfl <;> decide +kernel
theorem sc_r {S : Nat} (h : isSc S) : rf S 0 = S + 1 ∧ rf S 1 = S + 2 ∧ rf S 2 = S + 3 ∧ rf S 4 = S + 4 ∧ rf S 6 = S + 5 ∧ rf S 7 = S + 6 ∧ rf S 8 = S + 7 := by rcases h with rfl | rfl | rfl | rfl <;> decide +kernel
theorem sc_a {S : Nat} (h : isSc S) : ak (S + 1) = 2 ∧ ak (S + 2) = 2 ∧ ak (S + 3) = 2 ∧ ak (S + 4) = 2 ∧ ak (S + 5) = 2 ∧ ak (S + 6) = 2 ∧ ak (S + 7) = 2 := by rcases h with rfl | rfl | rfl | rfl <;> decide +kernel
theorem sc_n {S : Nat} (h : isSc S) : aln (S + 1) = 24 ∧ aln (S + 2) = 24 ∧ aln (S + 3) = 24 ∧ aln (S + 4) = 300 ∧ aln (S + 5) = 4 ∧ aln (S + 6) = 4 ∧ aln (S + 7) = 64 := by rcases h with rfl | rfl | rfl | rfl <;> decide +kernel
theorem tyc_0 {t t1 : List Bool} {q : Int × Int} (h : tyc t q = some t1) : (q.1 = 400 ∧ t1 = false :: t) ∨ (q.1 = 401 ∧ t1 = false :: t) ∨ (q.1 = 402 ∧ ∃ r, t = false :: r ∧ t1 = false :: r) ∨ (q.1 = 405 ∧ ∃ r, t = true :: r ∧ t1 = true :: r) ∨ (isAr q.1 ∧ ∃ r, t = false :: false :: r ∧ t1 = false :: r) ∨ (isCm q.1 ∧ ∃ r, t = false :: false :: r ∧ t1 = true :: r) ∨ ((q.1 = 406 ∨ q.1 = 407) ∧ ∃ r, t = true :: true :: r ∧ t1 = true :: r) := by
  unfold tyc at h
  split at h
  · rename_i g
    have h := (Option.some.inj h).symm
    rcases g with g | g
    · exact Or.inl ⟨g, h⟩
    · exact Or.inr (Or.inl ⟨g, h⟩)
  · split at h
    · rename_i g
      refine Or.inr (Or.inr (Or.inl ⟨g, ?_⟩))
      split at h
      · exact ⟨_, rfl, (Option.some.inj h).symm⟩
      · cases h
    · split at h
      · rename_i g
        refine Or.inr (Or.inr (Or.inr (Or.inl ⟨g, ?_⟩)))
        split at h
        · exact ⟨_, rfl, (Option.some.inj h).symm⟩
        · cases h
      · split at h
        · rename_i g
          refine Or.inr (Or.inr (Or.inr (Or.inr (Or.inl ⟨g, ?_⟩))))
          split at h
          · exact ⟨_, rfl, (Option.some.inj h).symm⟩
          · cases h
        · split at h
          · rename_i g
            refine Or.inr (Or.inr (Or.inr (Or.inr (Or.inr (Or.inl ⟨g, ?_⟩)))))
            split at h
            · exact ⟨_, rfl, (Option.some.inj h).symm⟩
            · cases h
          · split at h
            · rename_i g
              refine Or.inr (Or.inr (Or.inr (Or.inr (Or.inr (Or.inr ⟨g, ?_⟩)))))
              split at h
              · exact ⟨_, rfl, (Option.some.inj h).symm⟩
              · cases h
            · cases h
theorem vty_1 {st : List Int} {b : Bool} {r : List Bool} (h : vty st (b :: r)) : ∃ x s, st = x :: s ∧ vok x b ∧ vty s r := by
  match st, h with
  | x :: s, h => exact ⟨x, s, rfl, h.1, h.2⟩
theorem wk_ar {o x y : Int} (ho : isAr o) (hx : -1000000 ≤ x ∧ x ≤ 1000000) (hy : -1000000 ≤ y ∧ y ≤ 1000000) : -1000000 ≤ wk o x y ∧ wk o x y ≤ 1000000 := by
  have hd := tdiv_R y hx
  have hr := tmod_R (y := y) (lo := -1000000) (hi := 1000000) (by decide) (by decide) hx.1 hx.2
  rcases ho with rfl | rfl | rfl | rfl | rfl
  all_goals simp only [wk, Int.reduceEq, if_true, if_false, bnd]
  all_goals (repeat' split)
  all_goals omega
theorem wk_cm {o x y : Int} (ho : isCm o) : wk o x y = 0 ∨ wk o x y = 1 := by
  rcases ho with rfl | rfl | rfl | rfl | rfl | rfl
  all_goals simp only [wk, Int.reduceEq, if_true, if_false]
  all_goals exact b2i_01 _
theorem wk_bo {o x y : Int} (ho : o = 406 ∨ o = 407) (hx : x = 0 ∨ x = 1) (hy : y = 0 ∨ y = 1) : wk o x y = 0 ∨ wk o x y = 1 := by
  rcases ho with rfl | rfl <;> rcases hx with rfl | rfl <;> rcases hy with rfl | rfl <;> decide
theorem vok_b {x : Int} (h : x = 0 ∨ x = 1) : vok x true := ⟨fun _ => h, by omega⟩
/-- a step keeps the kinds -/
theorem vty_pst {nm : Int → Int} {w : Int} (hn : ∀ n, okN w n → -1000000 ≤ nm n ∧ nm n ≤ 1000000) {q : Int × Int} {t t1 : List Bool} {st : List Int} (hq : okI w q) (ht : tyc t q = some t1) (h : vty st t) : vty (pst nm q st) t1 := by
  obtain ⟨o, v⟩ := q
  rcases tyc_0 ht with ⟨g, rfl⟩ | ⟨g, rfl⟩ | ⟨g, r, rfl, rfl⟩ | ⟨g, r, rfl, rfl⟩ | ⟨g, r, rfl, rfl⟩ | ⟨g, r, rfl, rfl⟩ | ⟨g, r, rfl, rfl⟩
  · replace g : o = 400 := g
    subst g
    have := hq.1 rfl
    exact ⟨⟨fun h => Bool.noConfusion h, by omega⟩, h⟩
  · replace g : o = 401 := g
    subst g
    exact ⟨⟨fun h => Bool.noConfusion h, hn _ (hq.2 rfl)⟩, h⟩
  · replace g : o = 402 := g
    subst g
    obtain ⟨x, s, rfl, a, b⟩ := vty_1 h
    exact ⟨⟨fun h => Bool.noConfusion h, by have := a.2; omega⟩, b⟩
  · replace g : o = 405 := g
    subst g
    obtain ⟨x, s, rfl, a, b⟩ := vty_1 h
    have := a.1 rfl
    exact ⟨vok_b (by omega), b⟩
  · obtain ⟨x, s, rfl, a, b⟩ := vty_1 h
    obtain ⟨y, s2, rfl, a2, b2⟩ := vty_1 b
    have e : pst nm (o, v) (x :: y :: s2) = wk o y x :: s2 := by
      rcases g with g | g | g | g | g <;> (replace g := (show o = _ from g); subst g; rfl)
    rw [e]
    exact ⟨⟨fun h => Bool.noConfusion h, wk_ar g a2.2 a.2⟩, b2⟩
  · obtain ⟨x, s, rfl, a, b⟩ := vty_1 h
    obtain ⟨y, s2, rfl, a2, b2⟩ := vty_1 b
    have e : pst nm (o, v) (x :: y :: s2) = wk o y x :: s2 := by
      rcases g with g | g | g | g | g | g <;> (replace g := (show o = _ from g); subst g; rfl)
    rw [e]
    exact ⟨vok_b (wk_cm g), b2⟩
  · obtain ⟨x, s, rfl, a, b⟩ := vty_1 h
    obtain ⟨y, s2, rfl, a2, b2⟩ := vty_1 b
    have e : pst nm (o, v) (x :: y :: s2) = wk o y x :: s2 := by
      rcases g with g | g <;> (replace g := (show o = _ from g); subst g; rfl)
    rw [e]
    exact ⟨vok_b (wk_bo g (a2.1 rfl) (a.1 rfl)), b2⟩
theorem oTk_r {o : Int} (h : isAr o ∨ isCm o ∨ o = 406 ∨ o = 407) : (12 ≤ oTk o ∧ oTk o ≤ 13 ∨ 28 ≤ oTk o ∧ oTk o ≤ 38) ∧ (o ≠ 400 ∧ o ≠ 401 ∧ o ≠ 402 ∧ o ≠ 405) := by
  rcases h with h | h | h | h
  · rcases h with rfl | rfl | rfl | rfl | rfl <;> decide
  · rcases h with rfl | rfl | rfl | rfl | rfl | rfl <;> decide
  · subst h; decide
  · subst h; decide
theorem nTk_r {w n : Int} (h : okN w n) : 5 ≤ nTk n ∧ nTk n ≤ 27 := by
  unfold okN at h
  unfold nTk
  split <;> (try split) <;> omega
theorem pst_2 {nm : Int → Int} {o v x y : Int} {s : List Int} (h : o ≠ 400 ∧ o ≠ 401 ∧ o ≠ 402 ∧ o ≠ 405) : pst nm (o, v) (x :: y :: s) = wk o y x :: s := by
  unfold pst
  dsimp only
  rw [if_neg h.1, if_neg h.2.1, if_neg h.2.2.1, if_neg h.2.2.2]
theorem len_c {x : Int} {s : List Int} : (((x :: s).length : Nat) : Int) = (s.length : Int) + 1 := by rw [List.length_cons]; omega
set_option maxHeartbeats 1000000 in
theorem l_value {d S : Nat} (hS : isSc S) {w : Int} (hw : 0 ≤ w ∧ w ≤ 3) {nm : Int → Int} {K : mQ} {t2 : List Bool} : ∀ (L : List (Int × Int)) (t : List Bool) (st : List Int) (M : mM) (lv : mL) (i : Int), wfc w L t t2 → vty st t → st.length ≤ 60 → aSt (M (S + 7)) st → cod (M (S + 4)) i L → M (S + 6) w = i + L.length → 0 ≤ i → i + L.length ≤ 300 → (∀ n, okN w n → M 66 (nTk n) = nm n ∧ -1000000 ≤ nm n ∧ nm n ≤ 1000000) → lv 0 = some (vr S) → lv 1 = some (vi w) → lv 2 = some (vr 66) → lv 3 = some (vi st.length) → lv 4 = some (vi i) → (∀ f, aSt f (pev nm L st) → K (some (vi (f 0))) (upC M (S + 7) f)) → rn (d + 1) 77 K 10 lv [] M := by
  have q0 := sc_c hS
  obtain ⟨-, -, -, r4, -, r6, r7⟩ := sc_r hS
  obtain ⟨-, -, -, a4, -, a6, a7⟩ := sc_a hS
  obtain ⟨-, -, -, n4, -, n6, n7⟩ := sc_n hS
  have hs1 : 27 ≤ S ∧ S ≤ 51 := by rcases hS with rfl | rfl | rfl | rfl <;> decide
  intro L
  induction L with
  | nil =>
    intro t st M lv i wf vt hl ha hc ht h0 h3 hn g0 g1 g2 g3 g4 hK
    simp only [List.length_nil] at ht
    rw [w77_10]
    simp (disch := first | decide | omega) only [b77, w77_0, w77_1, w77_2, w77_3, w77_6, w77_7, w77_8, w77_12, w77_13, w77_16, w77_17, w77_18, w77_21, w77_22, w77_25, w77_27, w77_28, w77_30, w77_32, w77_35, w77_36, w77_38, w77_40, w77_43, w77_44, w77_45, w77_48, w77_49, w77_52, w77_53, w77_54, w77_55, w77_58, w77_59, w77_61, w77_64, w77_67, w77_69, w77_72, w77_73, w77_75, w77_78, w77_79, w77_80, w77_81, w77_84, w77_87, w77_89, w77_91, w77_94, w77_96, w77_98, w77_101, w77_102, w77_103, w77_106, w77_107, w77_108, w77_109, w77_112, w77_113, w77_114, w77_115, w77_117, w77_119, w77_122, w77_123, w77_124, w77_127, w77_128, w77_129, w77_130, w77_131, w77_132, w77_135, w77_136, w77_139, w77_140, w77_141, w77_142, w77_143, w77_144, w77_145, w77_148, w77_149, w77_150, w77_153, w77_154, w77_155, w77_158, w77_159, w77_162, w77_163, w77_164, w77_165, w77_167, w77_168, w77_171, w77_172, w77_173, w77_174, w77_175, w77_176, w77_179, w77_180, w77_181, w77_184, w77_185, w77_188, w77_191, w77_192, w77_195, w77_196, w77_197, ta66, tn66, xLoad_i, xLoad_l, xLoad_r, xInc_s, xBr_t, xBr_f, xNz_s, xGf_s, xPf_s, xPz_s, xLd_2, xLd_7, xLd_10, xLdb_3, xLdb_5, xLdb_9, xLdl_4, xLdr_6, xSt_2, xStl_4, xStb_3, xStb_5, xLen_s, xLen_10, xCpy_s, xIv_s, xMx_s, mCont_s, mCont_n, w32_s, w64_s, upC_e, upC_n, upC_u, upC_c, mEn_c, mEn_n, mcw_i, mcw_l, mcw_r, mcat_n, mcat_i, mcat_l, mcat_r, xlong_i, xlong_l, xlong_r, xlong_n, s1_at, s2_at, ↓reduceIte, reduceCtorEq, and_self, true_and, and_true, false_and, and_false, Bool.false_eq_true, ne_eq, not_true_eq_false, not_false_eq_true, or_true, true_or, or_false, false_or, or_self, Int.tmod_eq_emod_of_nonneg, Int.tdiv_eq_ediv_of_nonneg, Classical.not_not, xSw, rOK, b2i_ok, b2i_0, b2i_1, Nat.reduceAdd, Nat.reduceSub, Nat.reduceMul, Nat.reduceEqDiff, Nat.reduceLeDiff, Nat.reduceLT, Int.reduceAdd, Int.reduceSub, Int.reduceMul, Int.reduceNeg, Int.reduceEq, Int.reduceNe, Int.reduceLT, Int.reduceLE, Int.reduceToNat, Int.reduceTDiv, Int.reduceTMod, g0, g1, g2, g3, g4, q0, r4, r6, r7, a4, a6, a7, n4, n6, n7]
    have := hK (M (S + 7)) ha
    rw [upC_s] at this
    exact this
  | cons q L ih =>
    intro t st M lv i wf vt hl ha hc ht h0 h3 hn g0 g1 g2 g3 g4 hK
    obtain ⟨o, v⟩ := q
    obtain ⟨hq, t1, ht1, hl1, wf⟩ := wf
    obtain ⟨hc1, hc⟩ := hc
    rw [List.length_cons] at ht h3
    have vt1 := vty_pst (nm := nm) (fun n h => (hn n h).2) hq ht1 vt
    have hlen := vty_len vt
    have hlen1 := vty_len vt1
    rw [w77_10]
    have hl0 := hl1
    rcases tyc_0 ht1 with ⟨g, rfl⟩ | ⟨g, rfl⟩ | ⟨g, r, rfl, rfl⟩ | ⟨g, r, rfl, rfl⟩ | ⟨g, r, rfl, rfl⟩ | ⟨g, r, rfl, rfl⟩ | ⟨g, r, rfl, rfl⟩
    · replace g : o = 400 := g
      subst g
      have hv := hq.1 rfl
      replace hc1 : M (S + 4) i = v := hc1
      dsimp only at hv
      simp (disch := first | decide | omega) only [b77, w77_0, w77_1, w77_2, w77_3, w77_6, w77_7, w77_8, w77_12, w77_13, w77_16, w77_17, w77_18, w77_21, w77_22, w77_25, w77_27, w77_28, w77_30, w77_32, w77_35, w77_36, w77_38, w77_40, w77_43, w77_44, w77_45, w77_48, w77_49, w77_52, w77_53, w77_54, w77_55, w77_58, w77_59, w77_61, w77_64, w77_67, w77_69, w77_72, w77_73, w77_75, w77_78, w77_79, w77_80, w77_81, w77_84, w77_87, w77_89, w77_91, w77_94, w77_96, w77_98, w77_101, w77_102, w77_103, w77_106, w77_107, w77_108, w77_109, w77_112, w77_113, w77_114, w77_115, w77_117, w77_119, w77_122, w77_123, w77_124, w77_127, w77_128, w77_129, w77_130, w77_131, w77_132, w77_135, w77_136, w77_139, w77_140, w77_141, w77_142, w77_143, w77_144, w77_145, w77_148, w77_149, w77_150, w77_153, w77_154, w77_155, w77_158, w77_159, w77_162, w77_163, w77_164, w77_165, w77_167, w77_168, w77_171, w77_172, w77_173, w77_174, w77_175, w77_176, w77_179, w77_180, w77_181, w77_184, w77_185, w77_188, w77_191, w77_192, w77_195, w77_196, w77_197, ta66, tn66, xLoad_i, xLoad_l, xLoad_r, xInc_s, xBr_t, xBr_f, xNz_s, xGf_s, xPf_s, xPz_s, xLd_2, xLd_7, xLd_10, xLdb_3, xLdb_5, xLdb_9, xLdl_4, xLdr_6, xSt_2, xStl_4, xStb_3, xStb_5, xLen_s, xLen_10, xCpy_s, xIv_s, xMx_s, mCont_s, mCont_n, w32_s, w64_s, upC_e, upC_n, upC_u, upC_c, mEn_c, mEn_n, mcw_i, mcw_l, mcw_r, mcat_n, mcat_i, mcat_l, mcat_r, xlong_i, xlong_l, xlong_r, xlong_n, s1_at, s2_at, ↓reduceIte, reduceCtorEq, and_self, true_and, and_true, false_and, and_false, Bool.false_eq_true, ne_eq, not_true_eq_false, not_false_eq_true, or_true, true_or, or_false, false_or, or_self, Int.tmod_eq_emod_of_nonneg, Int.tdiv_eq_ediv_of_nonneg, Classical.not_not, xSw, rOK, b2i_ok, b2i_0, b2i_1, Nat.reduceAdd, Nat.reduceSub, Nat.reduceMul, Nat.reduceEqDiff, Nat.reduceLeDiff, Nat.reduceLT, Int.reduceAdd, Int.reduceSub, Int.reduceMul, Int.reduceNeg, Int.reduceEq, Int.reduceNe, Int.reduceLT, Int.reduceLE, Int.reduceToNat, Int.reduceTDiv, Int.reduceTMod, g0, g1, g2, g3, g4, q0, r4, r6, r7, a4, a6, a7, n4, n6, n7, hc1]
      refine ih _ (v :: st) _ _ (i + 1) wf (vt1) (by simp only [List.length_cons] at *; omega) (by rw [upC_e]; exact ⟨mU_e, (aSt_u (by omega)).mpr ha⟩) (by rw [upC_n (by omega)]; exact hc) (by rw [upC_n (by omega), ht]; omega) (by omega) (by omega) (fun n hn1 => by rw [upC_n (by omega)]; exact hn n hn1) ?_ ?_ ?_ ?_ ?_ (fun f hf => by rw [upC_u]; exact hK f (by first | exact hf | (rw [pev]; exact hf)))
      all_goals simp [s1_at, g0, g1, g2, g3, g4, xlong_i, xlong_r, len_c]
      all_goals (try omega)
    · replace g : o = 401 := g
      subst g
      have hv := hq.2 rfl
      replace hc1 : M (S + 4) i = 10000 + nTk v := hc1
      dsimp only at hv
      have hv2 := nTk_r hv
      have hv3 := hn v hv
      have e1 : 10000 + nTk v - 10000 = nTk v := by omega
      have e2 := hv3.1
      simp (disch := first | decide | omega) only [b77, w77_0, w77_1, w77_2, w77_3, w77_6, w77_7, w77_8, w77_12, w77_13, w77_16, w77_17, w77_18, w77_21, w77_22, w77_25, w77_27, w77_28, w77_30, w77_32, w77_35, w77_36, w77_38, w77_40, w77_43, w77_44, w77_45, w77_48, w77_49, w77_52, w77_53, w77_54, w77_55, w77_58, w77_59, w77_61, w77_64, w77_67, w77_69, w77_72, w77_73, w77_75, w77_78, w77_79, w77_80, w77_81, w77_84, w77_87, w77_89, w77_91, w77_94, w77_96, w77_98, w77_101, w77_102, w77_103, w77_106, w77_107, w77_108, w77_109, w77_112, w77_113, w77_114, w77_115, w77_117, w77_119, w77_122, w77_123, w77_124, w77_127, w77_128, w77_129, w77_130, w77_131, w77_132, w77_135, w77_136, w77_139, w77_140, w77_141, w77_142, w77_143, w77_144, w77_145, w77_148, w77_149, w77_150, w77_153, w77_154, w77_155, w77_158, w77_159, w77_162, w77_163, w77_164, w77_165, w77_167, w77_168, w77_171, w77_172, w77_173, w77_174, w77_175, w77_176, w77_179, w77_180, w77_181, w77_184, w77_185, w77_188, w77_191, w77_192, w77_195, w77_196, w77_197, ta66, tn66, xLoad_i, xLoad_l, xLoad_r, xInc_s, xBr_t, xBr_f, xNz_s, xGf_s, xPf_s, xPz_s, xLd_2, xLd_7, xLd_10, xLdb_3, xLdb_5, xLdb_9, xLdl_4, xLdr_6, xSt_2, xStl_4, xStb_3, xStb_5, xLen_s, xLen_10, xCpy_s, xIv_s, xMx_s, mCont_s, mCont_n, w32_s, w64_s, upC_e, upC_n, upC_u, upC_c, mEn_c, mEn_n, mcw_i, mcw_l, mcw_r, mcat_n, mcat_i, mcat_l, mcat_r, xlong_i, xlong_l, xlong_r, xlong_n, s1_at, s2_at, ↓reduceIte, reduceCtorEq, and_self, true_and, and_true, false_and, and_false, Bool.false_eq_true, ne_eq, not_true_eq_false, not_false_eq_true, or_true, true_or, or_false, false_or, or_self, Int.tmod_eq_emod_of_nonneg, Int.tdiv_eq_ediv_of_nonneg, Classical.not_not, xSw, rOK, b2i_ok, b2i_0, b2i_1, Nat.reduceAdd, Nat.reduceSub, Nat.reduceMul, Nat.reduceEqDiff, Nat.reduceLeDiff, Nat.reduceLT, Int.reduceAdd, Int.reduceSub, Int.reduceMul, Int.reduceNeg, Int.reduceEq, Int.reduceNe, Int.reduceLT, Int.reduceLE, Int.reduceToNat, Int.reduceTDiv, Int.reduceTMod, g0, g1, g2, g3, g4, q0, r4, r6, r7, a4, a6, a7, n4, n6, n7, hc1, e1, e2]
      refine ih _ (nm v :: st) _ _ (i + 1) wf (vt1) (by simp only [List.length_cons] at *; omega) (by rw [upC_e]; exact ⟨mU_e, (aSt_u (by omega)).mpr ha⟩) (by rw [upC_n (by omega)]; exact hc) (by rw [upC_n (by omega), ht]; omega) (by omega) (by omega) (fun n hn1 => by rw [upC_n (by omega)]; exact hn n hn1) ?_ ?_ ?_ ?_ ?_ (fun f hf => by rw [upC_u]; exact hK f (by first | exact hf | (rw [pev, pst]; exact hf)))
      all_goals simp [s1_at, g0, g1, g2, g3, g4, xlong_i, xlong_r, len_c]
      all_goals (try omega)
    · replace g : o = 402 := g
      subst g
      replace hc1 : M (S + 4) i = 20045 := hc1
      obtain ⟨x, s, rfl, hx, hs⟩ := vty_1 vt
      have hx2 := hx.2
      rw [len_c] at g3
      obtain ⟨ha1, ha⟩ := ha
      simp only [List.length_cons] at hl hlen
      have e1 : (s.length : Int) + 1 - 1 = s.length := by omega
      simp (disch := first | decide | omega) only [b77, w77_0, w77_1, w77_2, w77_3, w77_6, w77_7, w77_8, w77_12, w77_13, w77_16, w77_17, w77_18, w77_21, w77_22, w77_25, w77_27, w77_28, w77_30, w77_32, w77_35, w77_36, w77_38, w77_40, w77_43, w77_44, w77_45, w77_48, w77_49, w77_52, w77_53, w77_54, w77_55, w77_58, w77_59, w77_61, w77_64, w77_67, w77_69, w77_72, w77_73, w77_75, w77_78, w77_79, w77_80, w77_81, w77_84, w77_87, w77_89, w77_91, w77_94, w77_96, w77_98, w77_101, w77_102, w77_103, w77_106, w77_107, w77_108, w77_109, w77_112, w77_113, w77_114, w77_115, w77_117, w77_119, w77_122, w77_123, w77_124, w77_127, w77_128, w77_129, w77_130, w77_131, w77_132, w77_135, w77_136, w77_139, w77_140, w77_141, w77_142, w77_143, w77_144, w77_145, w77_148, w77_149, w77_150, w77_153, w77_154, w77_155, w77_158, w77_159, w77_162, w77_163, w77_164, w77_165, w77_167, w77_168, w77_171, w77_172, w77_173, w77_174, w77_175, w77_176, w77_179, w77_180, w77_181, w77_184, w77_185, w77_188, w77_191, w77_192, w77_195, w77_196, w77_197, ta66, tn66, xLoad_i, xLoad_l, xLoad_r, xInc_s, xBr_t, xBr_f, xNz_s, xGf_s, xPf_s, xPz_s, xLd_2, xLd_7, xLd_10, xLdb_3, xLdb_5, xLdb_9, xLdl_4, xLdr_6, xSt_2, xStl_4, xStb_3, xStb_5, xLen_s, xLen_10, xCpy_s, xIv_s, xMx_s, mCont_s, mCont_n, w32_s, w64_s, upC_e, upC_n, upC_u, upC_c, mEn_c, mEn_n, mcw_i, mcw_l, mcw_r, mcat_n, mcat_i, mcat_l, mcat_r, xlong_i, xlong_l, xlong_r, xlong_n, s1_at, s2_at, ↓reduceIte, reduceCtorEq, and_self, true_and, and_true, false_and, and_false, Bool.false_eq_true, ne_eq, not_true_eq_false, not_false_eq_true, or_true, true_or, or_false, false_or, or_self, Int.tmod_eq_emod_of_nonneg, Int.tdiv_eq_ediv_of_nonneg, Classical.not_not, xSw, rOK, b2i_ok, b2i_0, b2i_1, Nat.reduceAdd, Nat.reduceSub, Nat.reduceMul, Nat.reduceEqDiff, Nat.reduceLeDiff, Nat.reduceLT, Int.reduceAdd, Int.reduceSub, Int.reduceMul, Int.reduceNeg, Int.reduceEq, Int.reduceNe, Int.reduceLT, Int.reduceLE, Int.reduceToNat, Int.reduceTDiv, Int.reduceTMod, g0, g1, g2, g3, g4, q0, r4, r6, r7, a4, a6, a7, n4, n6, n7, hc1, e1, ha1]
      refine ih _ ((-x) :: s) _ _ (i + 1) wf (vt1) (by simp only [List.length_cons] at *; omega) (by rw [upC_e]; exact ⟨mU_e, (aSt_u (by omega)).mpr ha⟩) (by rw [upC_n (by omega)]; exact hc) (by rw [upC_n (by omega), ht]; omega) (by omega) (by omega) (fun n hn1 => by rw [upC_n (by omega)]; exact hn n hn1) ?_ ?_ ?_ ?_ ?_ (fun f hf => by rw [upC_u]; exact hK f (by first | exact hf | (rw [pev, pst]; exact hf)))
      all_goals simp [s1_at, g0, g1, g2, g3, g4, xlong_i, xlong_r, len_c]
      all_goals (try omega)
    · replace g : o = 405 := g
      subst g
      replace hc1 : M (S + 4) i = 20014 := hc1
      obtain ⟨x, s, rfl, hx, hs⟩ := vty_1 vt
      have hx2 := hx.2
      rw [len_c] at g3
      obtain ⟨ha1, ha⟩ := ha
      simp only [List.length_cons] at hl hlen
      have e1 : (s.length : Int) + 1 - 1 = s.length := by omega
      simp (disch := first | decide | omega) only [b77, w77_0, w77_1, w77_2, w77_3, w77_6, w77_7, w77_8, w77_12, w77_13, w77_16, w77_17, w77_18, w77_21, w77_22, w77_25, w77_27, w77_28, w77_30, w77_32, w77_35, w77_36, w77_38, w77_40, w77_43, w77_44, w77_45, w77_48, w77_49, w77_52, w77_53, w77_54, w77_55, w77_58, w77_59, w77_61, w77_64, w77_67, w77_69, w77_72, w77_73, w77_75, w77_78, w77_79, w77_80, w77_81, w77_84, w77_87, w77_89, w77_91, w77_94, w77_96, w77_98, w77_101, w77_102, w77_103, w77_106, w77_107, w77_108, w77_109, w77_112, w77_113, w77_114, w77_115, w77_117, w77_119, w77_122, w77_123, w77_124, w77_127, w77_128, w77_129, w77_130, w77_131, w77_132, w77_135, w77_136, w77_139, w77_140, w77_141, w77_142, w77_143, w77_144, w77_145, w77_148, w77_149, w77_150, w77_153, w77_154, w77_155, w77_158, w77_159, w77_162, w77_163, w77_164, w77_165, w77_167, w77_168, w77_171, w77_172, w77_173, w77_174, w77_175, w77_176, w77_179, w77_180, w77_181, w77_184, w77_185, w77_188, w77_191, w77_192, w77_195, w77_196, w77_197, ta66, tn66, xLoad_i, xLoad_l, xLoad_r, xInc_s, xBr_t, xBr_f, xNz_s, xGf_s, xPf_s, xPz_s, xLd_2, xLd_7, xLd_10, xLdb_3, xLdb_5, xLdb_9, xLdl_4, xLdr_6, xSt_2, xStl_4, xStb_3, xStb_5, xLen_s, xLen_10, xCpy_s, xIv_s, xMx_s, mCont_s, mCont_n, w32_s, w64_s, upC_e, upC_n, upC_u, upC_c, mEn_c, mEn_n, mcw_i, mcw_l, mcw_r, mcat_n, mcat_i, mcat_l, mcat_r, xlong_i, xlong_l, xlong_r, xlong_n, s1_at, s2_at, ↓reduceIte, reduceCtorEq, and_self, true_and, and_true, false_and, and_false, Bool.false_eq_true, ne_eq, not_true_eq_false, not_false_eq_true, or_true, true_or, or_false, false_or, or_self, Int.tmod_eq_emod_of_nonneg, Int.tdiv_eq_ediv_of_nonneg, Classical.not_not, xSw, rOK, b2i_ok, b2i_0, b2i_1, Nat.reduceAdd, Nat.reduceSub, Nat.reduceMul, Nat.reduceEqDiff, Nat.reduceLeDiff, Nat.reduceLT, Int.reduceAdd, Int.reduceSub, Int.reduceMul, Int.reduceNeg, Int.reduceEq, Int.reduceNe, Int.reduceLT, Int.reduceLE, Int.reduceToNat, Int.reduceTDiv, Int.reduceTMod, g0, g1, g2, g3, g4, q0, r4, r6, r7, a4, a6, a7, n4, n6, n7, hc1, e1, ha1]
      refine ih _ ((1 - x) :: s) _ _ (i + 1) wf (vt1) (by simp only [List.length_cons] at *; omega) (by rw [upC_e]; exact ⟨mU_e, (aSt_u (by omega)).mpr ha⟩) (by rw [upC_n (by omega)]; exact hc) (by rw [upC_n (by omega), ht]; omega) (by omega) (by omega) (fun n hn1 => by rw [upC_n (by omega)]; exact hn n hn1) ?_ ?_ ?_ ?_ ?_ (fun f hf => by rw [upC_u]; exact hK f (by first | exact hf | (rw [pev, pst]; exact hf)))
      all_goals simp [s1_at, g0, g1, g2, g3, g4, xlong_i, xlong_r, len_c]
      all_goals (try omega)
    · replace g : isAr o := g
      have hr := oTk_r (Or.inl g)
      have hne := hr.2
      replace hc1 : M (S + 4) i = 20000 + oTk o := by rw [hc1]; unfold enc; dsimp only; rw [if_neg hne.1, if_neg hne.2.1]
      obtain ⟨x, s, rfl, hx, hs⟩ := vty_1 vt
      obtain ⟨y, s, rfl, hy, hs⟩ := vty_1 hs
      have hx2 := hx.2
      have hy2 := hy.2
      rw [len_c, len_c] at g3
      obtain ⟨ha1, ha2, ha⟩ := ha
      rw [len_c] at ha1
      simp only [List.length_cons] at hl hlen
      have e1 : (s.length : Int) + 1 - 1 = s.length := by omega
      have e2 : (s.length : Int) + 1 + 1 + -1 = s.length + 1 := by omega
      have e3 : 20000 + oTk o - 20000 = oTk o := by omega
      simp (disch := first | decide | omega) only [b77, w77_0, w77_1, w77_2, w77_3, w77_6, w77_7, w77_8, w77_12, w77_13, w77_16, w77_17, w77_18, w77_21, w77_22, w77_25, w77_27, w77_28, w77_30, w77_32, w77_35, w77_36, w77_38, w77_40, w77_43, w77_44, w77_45, w77_48, w77_49, w77_52, w77_53, w77_54, w77_55, w77_58, w77_59, w77_61, w77_64, w77_67, w77_69, w77_72, w77_73, w77_75, w77_78, w77_79, w77_80, w77_81, w77_84, w77_87, w77_89, w77_91, w77_94, w77_96, w77_98, w77_101, w77_102, w77_103, w77_106, w77_107, w77_108, w77_109, w77_112, w77_113, w77_114, w77_115, w77_117, w77_119, w77_122, w77_123, w77_124, w77_127, w77_128, w77_129, w77_130, w77_131, w77_132, w77_135, w77_136, w77_139, w77_140, w77_141, w77_142, w77_143, w77_144, w77_145, w77_148, w77_149, w77_150, w77_153, w77_154, w77_155, w77_158, w77_159, w77_162, w77_163, w77_164, w77_165, w77_167, w77_168, w77_171, w77_172, w77_173, w77_174, w77_175, w77_176, w77_179, w77_180, w77_181, w77_184, w77_185, w77_188, w77_191, w77_192, w77_195, w77_196, w77_197, ta66, tn66, xLoad_i, xLoad_l, xLoad_r, xInc_s, xBr_t, xBr_f, xNz_s, xGf_s, xPf_s, xPz_s, xLd_2, xLd_7, xLd_10, xLdb_3, xLdb_5, xLdb_9, xLdl_4, xLdr_6, xSt_2, xStl_4, xStb_3, xStb_5, xLen_s, xLen_10, xCpy_s, xIv_s, xMx_s, mCont_s, mCont_n, w32_s, w64_s, upC_e, upC_n, upC_u, upC_c, mEn_c, mEn_n, mcw_i, mcw_l, mcw_r, mcat_n, mcat_i, mcat_l, mcat_r, xlong_i, xlong_l, xlong_r, xlong_n, s1_at, s2_at, ↓reduceIte, reduceCtorEq, and_self, true_and, and_true, false_and, and_false, Bool.false_eq_true, ne_eq, not_true_eq_false, not_false_eq_true, or_true, true_or, or_false, false_or, or_self, Int.tmod_eq_emod_of_nonneg, Int.tdiv_eq_ediv_of_nonneg, Classical.not_not, xSw, rOK, b2i_ok, b2i_0, b2i_1, Nat.reduceAdd, Nat.reduceSub, Nat.reduceMul, Nat.reduceEqDiff, Nat.reduceLeDiff, Nat.reduceLT, Int.reduceAdd, Int.reduceSub, Int.reduceMul, Int.reduceNeg, Int.reduceEq, Int.reduceNe, Int.reduceLT, Int.reduceLE, Int.reduceToNat, Int.reduceTDiv, Int.reduceTMod, g0, g1, g2, g3, g4, q0, r4, r6, r7, a4, a6, a7, n4, n6, n7, hc1, e1, e2, e3, ha1, ha2]
      rw [c_joinedA g hy2 hx2]
      simp (disch := first | decide | omega) only [b77, w77_0, w77_1, w77_2, w77_3, w77_6, w77_7, w77_8, w77_12, w77_13, w77_16, w77_17, w77_18, w77_21, w77_22, w77_25, w77_27, w77_28, w77_30, w77_32, w77_35, w77_36, w77_38, w77_40, w77_43, w77_44, w77_45, w77_48, w77_49, w77_52, w77_53, w77_54, w77_55, w77_58, w77_59, w77_61, w77_64, w77_67, w77_69, w77_72, w77_73, w77_75, w77_78, w77_79, w77_80, w77_81, w77_84, w77_87, w77_89, w77_91, w77_94, w77_96, w77_98, w77_101, w77_102, w77_103, w77_106, w77_107, w77_108, w77_109, w77_112, w77_113, w77_114, w77_115, w77_117, w77_119, w77_122, w77_123, w77_124, w77_127, w77_128, w77_129, w77_130, w77_131, w77_132, w77_135, w77_136, w77_139, w77_140, w77_141, w77_142, w77_143, w77_144, w77_145, w77_148, w77_149, w77_150, w77_153, w77_154, w77_155, w77_158, w77_159, w77_162, w77_163, w77_164, w77_165, w77_167, w77_168, w77_171, w77_172, w77_173, w77_174, w77_175, w77_176, w77_179, w77_180, w77_181, w77_184, w77_185, w77_188, w77_191, w77_192, w77_195, w77_196, w77_197, ta66, tn66, xLoad_i, xLoad_l, xLoad_r, xInc_s, xBr_t, xBr_f, xNz_s, xGf_s, xPf_s, xPz_s, xLd_2, xLd_7, xLd_10, xLdb_3, xLdb_5, xLdb_9, xLdl_4, xLdr_6, xSt_2, xStl_4, xStb_3, xStb_5, xLen_s, xLen_10, xCpy_s, xIv_s, xMx_s, mCont_s, mCont_n, w32_s, w64_s, upC_e, upC_n, upC_u, upC_c, mEn_c, mEn_n, mcw_i, mcw_l, mcw_r, mcat_n, mcat_i, mcat_l, mcat_r, xlong_i, xlong_l, xlong_r, xlong_n, s1_at, s2_at, ↓reduceIte, reduceCtorEq, and_self, true_and, and_true, false_and, and_false, Bool.false_eq_true, ne_eq, not_true_eq_false, not_false_eq_true, or_true, true_or, or_false, false_or, or_self, Int.tmod_eq_emod_of_nonneg, Int.tdiv_eq_ediv_of_nonneg, Classical.not_not, xSw, rOK, b2i_ok, b2i_0, b2i_1, Nat.reduceAdd, Nat.reduceSub, Nat.reduceMul, Nat.reduceEqDiff, Nat.reduceLeDiff, Nat.reduceLT, Int.reduceAdd, Int.reduceSub, Int.reduceMul, Int.reduceNeg, Int.reduceEq, Int.reduceNe, Int.reduceLT, Int.reduceLE, Int.reduceToNat, Int.reduceTDiv, Int.reduceTMod, g0, g1, g2, g3, g4, q0, r4, r6, r7, a4, a6, a7, n4, n6, n7, hc1, e1, e2, e3, ha1, ha2]
      have hpe := pst_2 (nm := nm) (v := v) (x := x) (y := y) (s := s) hne
      rw [hpe] at vt1
      refine ih _ (wk o y x :: s) _ _ (i + 1) wf (vt1) (by simp only [List.length_cons] at *; omega) (by rw [upC_e]; exact ⟨mU_e, (aSt_u (by omega)).mpr ha⟩) (by rw [upC_n (by omega)]; exact hc) (by rw [upC_n (by omega), ht]; omega) (by omega) (by omega) (fun n hn1 => by rw [upC_n (by omega)]; exact hn n hn1) ?_ ?_ ?_ ?_ ?_ (fun f hf => by rw [upC_u]; exact hK f (by first | exact hf | (rw [pev, pst_2 hne]; exact hf)))
      all_goals simp [s1_at, g0, g1, g2, g3, g4, xlong_i, xlong_r, len_c]
      all_goals (try omega)
    · replace g : isCm o := g
      have hr := oTk_r (Or.inr (Or.inl g))
      have hne := hr.2
      replace hc1 : M (S + 4) i = 20000 + oTk o := by rw [hc1]; unfold enc; dsimp only; rw [if_neg hne.1, if_neg hne.2.1]
      obtain ⟨x, s, rfl, hx, hs⟩ := vty_1 vt
      obtain ⟨y, s, rfl, hy, hs⟩ := vty_1 hs
      have hx2 := hx.2
      have hy2 := hy.2
      rw [len_c, len_c] at g3
      obtain ⟨ha1, ha2, ha⟩ := ha
      rw [len_c] at ha1
      simp only [List.length_cons] at hl hlen
      have e1 : (s.length : Int) + 1 - 1 = s.length := by omega
      have e2 : (s.length : Int) + 1 + 1 + -1 = s.length + 1 := by omega
      have e3 : 20000 + oTk o - 20000 = oTk o := by omega
      simp (disch := first | decide | omega) only [b77, w77_0, w77_1, w77_2, w77_3, w77_6, w77_7, w77_8, w77_12, w77_13, w77_16, w77_17, w77_18, w77_21, w77_22, w77_25, w77_27, w77_28, w77_30, w77_32, w77_35, w77_36, w77_38, w77_40, w77_43, w77_44, w77_45, w77_48, w77_49, w77_52, w77_53, w77_54, w77_55, w77_58, w77_59, w77_61, w77_64, w77_67, w77_69, w77_72, w77_73, w77_75, w77_78, w77_79, w77_80, w77_81, w77_84, w77_87, w77_89, w77_91, w77_94, w77_96, w77_98, w77_101, w77_102, w77_103, w77_106, w77_107, w77_108, w77_109, w77_112, w77_113, w77_114, w77_115, w77_117, w77_119, w77_122, w77_123, w77_124, w77_127, w77_128, w77_129, w77_130, w77_131, w77_132, w77_135, w77_136, w77_139, w77_140, w77_141, w77_142, w77_143, w77_144, w77_145, w77_148, w77_149, w77_150, w77_153, w77_154, w77_155, w77_158, w77_159, w77_162, w77_163, w77_164, w77_165, w77_167, w77_168, w77_171, w77_172, w77_173, w77_174, w77_175, w77_176, w77_179, w77_180, w77_181, w77_184, w77_185, w77_188, w77_191, w77_192, w77_195, w77_196, w77_197, ta66, tn66, xLoad_i, xLoad_l, xLoad_r, xInc_s, xBr_t, xBr_f, xNz_s, xGf_s, xPf_s, xPz_s, xLd_2, xLd_7, xLd_10, xLdb_3, xLdb_5, xLdb_9, xLdl_4, xLdr_6, xSt_2, xStl_4, xStb_3, xStb_5, xLen_s, xLen_10, xCpy_s, xIv_s, xMx_s, mCont_s, mCont_n, w32_s, w64_s, upC_e, upC_n, upC_u, upC_c, mEn_c, mEn_n, mcw_i, mcw_l, mcw_r, mcat_n, mcat_i, mcat_l, mcat_r, xlong_i, xlong_l, xlong_r, xlong_n, s1_at, s2_at, ↓reduceIte, reduceCtorEq, and_self, true_and, and_true, false_and, and_false, Bool.false_eq_true, ne_eq, not_true_eq_false, not_false_eq_true, or_true, true_or, or_false, false_or, or_self, Int.tmod_eq_emod_of_nonneg, Int.tdiv_eq_ediv_of_nonneg, Classical.not_not, xSw, rOK, b2i_ok, b2i_0, b2i_1, Nat.reduceAdd, Nat.reduceSub, Nat.reduceMul, Nat.reduceEqDiff, Nat.reduceLeDiff, Nat.reduceLT, Int.reduceAdd, Int.reduceSub, Int.reduceMul, Int.reduceNeg, Int.reduceEq, Int.reduceNe, Int.reduceLT, Int.reduceLE, Int.reduceToNat, Int.reduceTDiv, Int.reduceTMod, g0, g1, g2, g3, g4, q0, r4, r6, r7, a4, a6, a7, n4, n6, n7, hc1, e1, e2, e3, ha1, ha2]
      rw [c_joinedC g]
      simp (disch := first | decide | omega) only [b77, w77_0, w77_1, w77_2, w77_3, w77_6, w77_7, w77_8, w77_12, w77_13, w77_16, w77_17, w77_18, w77_21, w77_22, w77_25, w77_27, w77_28, w77_30, w77_32, w77_35, w77_36, w77_38, w77_40, w77_43, w77_44, w77_45, w77_48, w77_49, w77_52, w77_53, w77_54, w77_55, w77_58, w77_59, w77_61, w77_64, w77_67, w77_69, w77_72, w77_73, w77_75, w77_78, w77_79, w77_80, w77_81, w77_84, w77_87, w77_89, w77_91, w77_94, w77_96, w77_98, w77_101, w77_102, w77_103, w77_106, w77_107, w77_108, w77_109, w77_112, w77_113, w77_114, w77_115, w77_117, w77_119, w77_122, w77_123, w77_124, w77_127, w77_128, w77_129, w77_130, w77_131, w77_132, w77_135, w77_136, w77_139, w77_140, w77_141, w77_142, w77_143, w77_144, w77_145, w77_148, w77_149, w77_150, w77_153, w77_154, w77_155, w77_158, w77_159, w77_162, w77_163, w77_164, w77_165, w77_167, w77_168, w77_171, w77_172, w77_173, w77_174, w77_175, w77_176, w77_179, w77_180, w77_181, w77_184, w77_185, w77_188, w77_191, w77_192, w77_195, w77_196, w77_197, ta66, tn66, xLoad_i, xLoad_l, xLoad_r, xInc_s, xBr_t, xBr_f, xNz_s, xGf_s, xPf_s, xPz_s, xLd_2, xLd_7, xLd_10, xLdb_3, xLdb_5, xLdb_9, xLdl_4, xLdr_6, xSt_2, xStl_4, xStb_3, xStb_5, xLen_s, xLen_10, xCpy_s, xIv_s, xMx_s, mCont_s, mCont_n, w32_s, w64_s, upC_e, upC_n, upC_u, upC_c, mEn_c, mEn_n, mcw_i, mcw_l, mcw_r, mcat_n, mcat_i, mcat_l, mcat_r, xlong_i, xlong_l, xlong_r, xlong_n, s1_at, s2_at, ↓reduceIte, reduceCtorEq, and_self, true_and, and_true, false_and, and_false, Bool.false_eq_true, ne_eq, not_true_eq_false, not_false_eq_true, or_true, true_or, or_false, false_or, or_self, Int.tmod_eq_emod_of_nonneg, Int.tdiv_eq_ediv_of_nonneg, Classical.not_not, xSw, rOK, b2i_ok, b2i_0, b2i_1, Nat.reduceAdd, Nat.reduceSub, Nat.reduceMul, Nat.reduceEqDiff, Nat.reduceLeDiff, Nat.reduceLT, Int.reduceAdd, Int.reduceSub, Int.reduceMul, Int.reduceNeg, Int.reduceEq, Int.reduceNe, Int.reduceLT, Int.reduceLE, Int.reduceToNat, Int.reduceTDiv, Int.reduceTMod, g0, g1, g2, g3, g4, q0, r4, r6, r7, a4, a6, a7, n4, n6, n7, hc1, e1, e2, e3, ha1, ha2]
      have hpe := pst_2 (nm := nm) (v := v) (x := x) (y := y) (s := s) hne
      rw [hpe] at vt1
      refine ih _ (wk o y x :: s) _ _ (i + 1) wf (vt1) (by simp only [List.length_cons] at *; omega) (by rw [upC_e]; exact ⟨mU_e, (aSt_u (by omega)).mpr ha⟩) (by rw [upC_n (by omega)]; exact hc) (by rw [upC_n (by omega), ht]; omega) (by omega) (by omega) (fun n hn1 => by rw [upC_n (by omega)]; exact hn n hn1) ?_ ?_ ?_ ?_ ?_ (fun f hf => by rw [upC_u]; exact hK f (by first | exact hf | (rw [pev, pst_2 hne]; exact hf)))
      all_goals simp [s1_at, g0, g1, g2, g3, g4, xlong_i, xlong_r, len_c]
      all_goals (try omega)
    · replace g : o = 406 ∨ o = 407 := g
      have hr := oTk_r (Or.inr (Or.inr g))
      have hne := hr.2
      replace hc1 : M (S + 4) i = 20000 + oTk o := by rw [hc1]; unfold enc; dsimp only; rw [if_neg hne.1, if_neg hne.2.1]
      obtain ⟨x, s, rfl, hx, hs⟩ := vty_1 vt
      obtain ⟨y, s, rfl, hy, hs⟩ := vty_1 hs
      have hx2 := hx.2
      have hy2 := hy.2
      rw [len_c, len_c] at g3
      obtain ⟨ha1, ha2, ha⟩ := ha
      rw [len_c] at ha1
      simp only [List.length_cons] at hl hlen
      have e1 : (s.length : Int) + 1 - 1 = s.length := by omega
      have e2 : (s.length : Int) + 1 + 1 + -1 = s.length + 1 := by omega
      have e3 : 20000 + oTk o - 20000 = oTk o := by omega
      simp (disch := first | decide | omega) only [b77, w77_0, w77_1, w77_2, w77_3, w77_6, w77_7, w77_8, w77_12, w77_13, w77_16, w77_17, w77_18, w77_21, w77_22, w77_25, w77_27, w77_28, w77_30, w77_32, w77_35, w77_36, w77_38, w77_40, w77_43, w77_44, w77_45, w77_48, w77_49, w77_52, w77_53, w77_54, w77_55, w77_58, w77_59, w77_61, w77_64, w77_67, w77_69, w77_72, w77_73, w77_75, w77_78, w77_79, w77_80, w77_81, w77_84, w77_87, w77_89, w77_91, w77_94, w77_96, w77_98, w77_101, w77_102, w77_103, w77_106, w77_107, w77_108, w77_109, w77_112, w77_113, w77_114, w77_115, w77_117, w77_119, w77_122, w77_123, w77_124, w77_127, w77_128, w77_129, w77_130, w77_131, w77_132, w77_135, w77_136, w77_139, w77_140, w77_141, w77_142, w77_143, w77_144, w77_145, w77_148, w77_149, w77_150, w77_153, w77_154, w77_155, w77_158, w77_159, w77_162, w77_163, w77_164, w77_165, w77_167, w77_168, w77_171, w77_172, w77_173, w77_174, w77_175, w77_176, w77_179, w77_180, w77_181, w77_184, w77_185, w77_188, w77_191, w77_192, w77_195, w77_196, w77_197, ta66, tn66, xLoad_i, xLoad_l, xLoad_r, xInc_s, xBr_t, xBr_f, xNz_s, xGf_s, xPf_s, xPz_s, xLd_2, xLd_7, xLd_10, xLdb_3, xLdb_5, xLdb_9, xLdl_4, xLdr_6, xSt_2, xStl_4, xStb_3, xStb_5, xLen_s, xLen_10, xCpy_s, xIv_s, xMx_s, mCont_s, mCont_n, w32_s, w64_s, upC_e, upC_n, upC_u, upC_c, mEn_c, mEn_n, mcw_i, mcw_l, mcw_r, mcat_n, mcat_i, mcat_l, mcat_r, xlong_i, xlong_l, xlong_r, xlong_n, s1_at, s2_at, ↓reduceIte, reduceCtorEq, and_self, true_and, and_true, false_and, and_false, Bool.false_eq_true, ne_eq, not_true_eq_false, not_false_eq_true, or_true, true_or, or_false, false_or, or_self, Int.tmod_eq_emod_of_nonneg, Int.tdiv_eq_ediv_of_nonneg, Classical.not_not, xSw, rOK, b2i_ok, b2i_0, b2i_1, Nat.reduceAdd, Nat.reduceSub, Nat.reduceMul, Nat.reduceEqDiff, Nat.reduceLeDiff, Nat.reduceLT, Int.reduceAdd, Int.reduceSub, Int.reduceMul, Int.reduceNeg, Int.reduceEq, Int.reduceNe, Int.reduceLT, Int.reduceLE, Int.reduceToNat, Int.reduceTDiv, Int.reduceTMod, g0, g1, g2, g3, g4, q0, r4, r6, r7, a4, a6, a7, n4, n6, n7, hc1, e1, e2, e3, ha1, ha2]
      rw [c_joinedB g (hy.1 rfl) (hx.1 rfl)]
      simp (disch := first | decide | omega) only [b77, w77_0, w77_1, w77_2, w77_3, w77_6, w77_7, w77_8, w77_12, w77_13, w77_16, w77_17, w77_18, w77_21, w77_22, w77_25, w77_27, w77_28, w77_30, w77_32, w77_35, w77_36, w77_38, w77_40, w77_43, w77_44, w77_45, w77_48, w77_49, w77_52, w77_53, w77_54, w77_55, w77_58, w77_59, w77_61, w77_64, w77_67, w77_69, w77_72, w77_73, w77_75, w77_78, w77_79, w77_80, w77_81, w77_84, w77_87, w77_89, w77_91, w77_94, w77_96, w77_98, w77_101, w77_102, w77_103, w77_106, w77_107, w77_108, w77_109, w77_112, w77_113, w77_114, w77_115, w77_117, w77_119, w77_122, w77_123, w77_124, w77_127, w77_128, w77_129, w77_130, w77_131, w77_132, w77_135, w77_136, w77_139, w77_140, w77_141, w77_142, w77_143, w77_144, w77_145, w77_148, w77_149, w77_150, w77_153, w77_154, w77_155, w77_158, w77_159, w77_162, w77_163, w77_164, w77_165, w77_167, w77_168, w77_171, w77_172, w77_173, w77_174, w77_175, w77_176, w77_179, w77_180, w77_181, w77_184, w77_185, w77_188, w77_191, w77_192, w77_195, w77_196, w77_197, ta66, tn66, xLoad_i, xLoad_l, xLoad_r, xInc_s, xBr_t, xBr_f, xNz_s, xGf_s, xPf_s, xPz_s, xLd_2, xLd_7, xLd_10, xLdb_3, xLdb_5, xLdb_9, xLdl_4, xLdr_6, xSt_2, xStl_4, xStb_3, xStb_5, xLen_s, xLen_10, xCpy_s, xIv_s, xMx_s, mCont_s, mCont_n, w32_s, w64_s, upC_e, upC_n, upC_u, upC_c, mEn_c, mEn_n, mcw_i, mcw_l, mcw_r, mcat_n, mcat_i, mcat_l, mcat_r, xlong_i, xlong_l, xlong_r, xlong_n, s1_at, s2_at, ↓reduceIte, reduceCtorEq, and_self, true_and, and_true, false_and, and_false, Bool.false_eq_true, ne_eq, not_true_eq_false, not_false_eq_true, or_true, true_or, or_false, false_or, or_self, Int.tmod_eq_emod_of_nonneg, Int.tdiv_eq_ediv_of_nonneg, Classical.not_not, xSw, rOK, b2i_ok, b2i_0, b2i_1, Nat.reduceAdd, Nat.reduceSub, Nat.reduceMul, Nat.reduceEqDiff, Nat.reduceLeDiff, Nat.reduceLT, Int.reduceAdd, Int.reduceSub, Int.reduceMul, Int.reduceNeg, Int.reduceEq, Int.reduceNe, Int.reduceLT, Int.reduceLE, Int.reduceToNat, Int.reduceTDiv, Int.reduceTMod, g0, g1, g2, g3, g4, q0, r4, r6, r7, a4, a6, a7, n4, n6, n7, hc1, e1, e2, e3, ha1, ha2]
      have hpe := pst_2 (nm := nm) (v := v) (x := x) (y := y) (s := s) hne
      rw [hpe] at vt1
      refine ih _ (wk o y x :: s) _ _ (i + 1) wf (vt1) (by simp only [List.length_cons] at *; omega) (by rw [upC_e]; exact ⟨mU_e, (aSt_u (by omega)).mpr ha⟩) (by rw [upC_n (by omega)]; exact hc) (by rw [upC_n (by omega), ht]; omega) (by omega) (by omega) (fun n hn1 => by rw [upC_n (by omega)]; exact hn n hn1) ?_ ?_ ?_ ?_ ?_ (fun f hf => by rw [upC_u]; exact hK f (by first | exact hf | (rw [pev, pst_2 hne]; exact hf)))
      all_goals simp [s1_at, g0, g1, g2, g3, g4, xlong_i, xlong_r, len_c]
      all_goals (try omega)
theorem vty_run {nm : Int → Int} {w : Int} (hn : ∀ n, okN w n → -1000000 ≤ nm n ∧ nm n ≤ 1000000) {t2 : List Bool} : ∀ {L : List (Int × Int)} {t : List Bool} {st : List Int}, wfc w L t t2 → vty st t → vty (pev nm L st) t2
  | [], t, st, wf, h => by
    have : t = t2 := wf
    subst this
    exact h
  | q :: L, t, st, wf, h => by
    obtain ⟨hq, t1, ht1, -, wf⟩ := wf
    show vty (pev nm L (pst nm q st)) t2
    exact vty_run hn wf (vty_pst hn hq ht1 h)
/-- a law of a text, as the class works it out -/
theorem c_value {d S : Nat} (hS : isSc S) {w : Int} (hw : 0 ≤ w ∧ w ≤ 3) {nm : Int → Int} {K : mQ} {b : Bool} {L : List (Int × Int)} {M : mM} (wf : wfc w L [] [b]) (hf : 0 ≤ M (S + 5) w) (hc : cod (M (S + 4)) (M (S + 5) w) L) (ht : M (S + 6) w = M (S + 5) w + L.length) (h3 : M (S + 6) w ≤ 300) (hn : ∀ n, okN w n → M 66 (nTk n) = nm n ∧ -1000000 ≤ nm n ∧ nm n ≤ 1000000) (hK : ∀ f, K (some (vi (evL nm L))) (upC M (S + 7) f)) : mCall (d + 2) 77 [vr S, vi w, vr 66] M K := by
  have q0 := sc_c hS
  obtain ⟨-, -, -, r4, r5, r6, r7⟩ := sc_r hS
  obtain ⟨-, -, -, a4, a5, a6, a7⟩ := sc_a hS
  obtain ⟨-, -, -, n4, n5, n6, n7⟩ := sc_n hS
  simp (disch := first | decide | omega) only [b77, w77_0, w77_1, w77_2, w77_3, w77_6, w77_7, w77_8, w77_12, w77_13, w77_16, w77_17, w77_18, w77_21, w77_22, w77_25, w77_27, w77_28, w77_30, w77_32, w77_35, w77_36, w77_38, w77_40, w77_43, w77_44, w77_45, w77_48, w77_49, w77_52, w77_53, w77_54, w77_55, w77_58, w77_59, w77_61, w77_64, w77_67, w77_69, w77_72, w77_73, w77_75, w77_78, w77_79, w77_80, w77_81, w77_84, w77_87, w77_89, w77_91, w77_94, w77_96, w77_98, w77_101, w77_102, w77_103, w77_106, w77_107, w77_108, w77_109, w77_112, w77_113, w77_114, w77_115, w77_117, w77_119, w77_122, w77_123, w77_124, w77_127, w77_128, w77_129, w77_130, w77_131, w77_132, w77_135, w77_136, w77_139, w77_140, w77_141, w77_142, w77_143, w77_144, w77_145, w77_148, w77_149, w77_150, w77_153, w77_154, w77_155, w77_158, w77_159, w77_162, w77_163, w77_164, w77_165, w77_167, w77_168, w77_171, w77_172, w77_173, w77_174, w77_175, w77_176, w77_179, w77_180, w77_181, w77_184, w77_185, w77_188, w77_191, w77_192, w77_195, w77_196, w77_197, ta66, tn66, xLoad_i, xLoad_l, xLoad_r, xInc_s, xBr_t, xBr_f, xNz_s, xGf_s, xPf_s, xPz_s, xLd_2, xLd_7, xLd_10, xLdb_3, xLdb_5, xLdb_9, xLdl_4, xLdr_6, xSt_2, xStl_4, xStb_3, xStb_5, xLen_s, xLen_10, xCpy_s, xIv_s, xMx_s, mCont_s, mCont_n, w32_s, w64_s, upC_e, upC_n, upC_u, upC_c, mEn_c, mEn_n, mcw_i, mcw_l, mcw_r, mcat_n, mcat_i, mcat_l, mcat_r, xlong_i, xlong_l, xlong_r, xlong_n, s1_at, s2_at, ↓reduceIte, reduceCtorEq, and_self, true_and, and_true, false_and, and_false, Bool.false_eq_true, ne_eq, not_true_eq_false, not_false_eq_true, or_true, true_or, or_false, false_or, or_self, Int.tmod_eq_emod_of_nonneg, Int.tdiv_eq_ediv_of_nonneg, Classical.not_not, xSw, rOK, b2i_ok, b2i_0, b2i_1, Nat.reduceAdd, Nat.reduceSub, Nat.reduceMul, Nat.reduceEqDiff, Nat.reduceLeDiff, Nat.reduceLT, Int.reduceAdd, Int.reduceSub, Int.reduceMul, Int.reduceNeg, Int.reduceEq, Int.reduceNe, Int.reduceLT, Int.reduceLE, Int.reduceToNat, Int.reduceTDiv, Int.reduceTMod, q0, r4, r5, r6, r7, a4, a5, a6, a7, n4, n5, n6, n7]
  refine l_value hS hw (nm := nm) L [] [] M _ (M (S + 5) w) wf trivial (by decide) trivial hc ht hf (by omega) hn ?_ ?_ ?_ ?_ ?_ (fun f hf => ?_)
  all_goals first | (simp [s1_at, mEn_c, mcw_r, mcw_i, xlong_i, xlong_r]; done) | skip
  have hv := vty_run (nm := nm) (st := []) (fun n h => (hn n h).2) wf trivial
  obtain ⟨x, s, hx, -, hs⟩ := vty_1 hv
  have h0 : s = [] := by
    match s, hs with
    | [], _ => rfl
  subst h0
  have e : evL nm L = x := by unfold evL; rw [hx]; rfl
  rw [hx] at hf
  have := hK f
  rw [e] at this
  rw [show f 0 = x from hf.1]
  exact this
