/-! the class's side over the state as it is meant -/
theorem ite_c {α : Type} {c c' : Prop} [Decidable c] [Decidable c'] {x y u v : α} (h1 : c → c') (h2 : c' → c) (hx : x = y) (hu : u = v) : (if c then x else u) = (if c' then y else v) := by
  by_cases h : c
  · rw [if_pos h, if_pos (h1 h), hx]
  · rw [if_neg h, if_neg (fun q => h (h2 q)), hu]
def SV (B : Nat) (M : mM) (A : Int → Int) : Prop := M B 0 = A 0 ∧ M B 1 = A 1 ∧ (∀ b : Nat, b < 6 → M (B + 2) b = A (10 + b) ∧ M (B + 3) b = A (16 + b)) ∧ (∀ l : Nat, l < 12 → M (B + 4) l = A (22 + 3 * l) ∧ M (B + 5) l = A (23 + 3 * l) ∧ M (B + 6) l = A (24 + 3 * l))
def RD (r : Int → Int) (A : Int → Int) : Prop := (∀ b : Nat, b < 6 → r b = A (83 + b) ∧ r (6 + b) = A (89 + b) ∧ r (12 + b) = A (95 + b) ∧ r (18 + b) = A (101 + b)) ∧ (∀ l : Nat, l < 12 → ((l : Int) < A 1 → r (24 + l) = A (107 + l)) ∧ (A 1 ≤ l → r (24 + l) = -1) ∧ r (36 + l) = A (119 + l)) ∧ r 48 = A 80 ∧ r 50 = A 82 ∧ 0 ≤ r 51 ∧ r 51 ≤ 40
def CX (M : mM) (A : Int → Int) (ru : RU) : Prop := SV 2 M A ∧ RD (M 9) A ∧ (M 9 49 + M 63 2 = A 81 ∧ 0 ≤ M 9 49 ∧ M 9 49 ≤ 2000 ∧ 0 ≤ M 63 2 ∧ M 63 2 ≤ 100) ∧ WS A ∧ WD A ∧ CR M ru
theorem CR_c {M M' : mM} {ru : RU} (h : CR M ru) (e0 : M' 2 18 = M 2 18) (e1 : ∀ k ∈ ([31, 32, 33, 39, 40, 41, 47, 48, 49, 55, 56, 57] : List Nat), M' k = M k) : CR M' ru := by
  rcases h with ⟨h1, h2⟩ | ⟨t, ht, h1, h2⟩
  · exact Or.inl ⟨by rw [e0, h1], h2⟩
  · refine Or.inr ⟨t, ht, by rw [e0, h1], ?_⟩
    have a4 : M' (27 + 8 * t + 4) = M (27 + 8 * t + 4) := e1 _ (by rcases (show t = 0 ∨ t = 1 ∨ t = 2 ∨ t = 3 by omega) with rfl | rfl | rfl | rfl <;> decide)
    have a5 : M' (27 + 8 * t + 5) = M (27 + 8 * t + 5) := e1 _ (by rcases (show t = 0 ∨ t = 1 ∨ t = 2 ∨ t = 3 by omega) with rfl | rfl | rfl | rfl <;> decide)
    have a6 : M' (27 + 8 * t + 6) = M (27 + 8 * t + 6) := e1 _ (by rcases (show t = 0 ∨ t = 1 ∨ t = 2 ∨ t = 3 by omega) with rfl | rfl | rfl | rfl <;> decide)
    rw [a4, a5, a6]
    exact h2
theorem CR_fr {S : List Nat} {M M' : mM} {ru : RU} (h : CR M ru) (hf : fr S M M') (hS : ∀ k ∈ ([2, 31, 32, 33, 39, 40, 41, 47, 48, 49, 55, 56, 57] : List Nat), k ∉ S) : CR M' ru :=
  CR_c h (by rw [hf 2 (hS _ (by decide))]) (fun k hk => hf k (hS k (List.mem_cons_of_mem _ hk)))
theorem SV_fr {S : List Nat} {M M' : mM} {A : Int → Int} (h : SV 2 M A) (hf : fr S M M') (hS : ∀ k ∈ ([2, 4, 5, 6, 7, 8] : List Nat), k ∉ S) : SV 2 M' A := by
  unfold SV at h ⊢
  rw [hf 2 (hS _ (by decide)), hf (2 + 2) (hS _ (by decide)), hf (2 + 3) (hS _ (by decide)), hf (2 + 4) (hS _ (by decide)), hf (2 + 5) (hS _ (by decide)), hf (2 + 6) (hS _ (by decide))]
  exact h
theorem CX_fr {S : List Nat} {M M' : mM} {A : Int → Int} {ru : RU} (h : CX M A ru) (hf : fr S M M') (hS : ∀ k ∈ ([2, 4, 5, 6, 7, 8, 9, 63, 31, 32, 33, 39, 40, 41, 47, 48, 49, 55, 56, 57] : List Nat), k ∉ S) : CX M' A ru := by
  obtain ⟨h1, h2, h3, h4, h5, h6⟩ := h
  have e9 : M' 9 = M 9 := hf 9 (hS _ (by decide))
  have e63 : M' 63 = M 63 := hf 63 (hS _ (by decide))
  refine ⟨SV_fr h1 hf (fun k hk => hS k ?_), by rw [e9]; exact h2, by rw [e9, e63]; exact h3, h4, h5, CR_fr h6 hf (fun k hk => hS k ?_)⟩
  · revert hk; revert k; decide
  · revert hk; revert k; decide
theorem bS_iff {s0 s1 : Int} {wh wh2 w w2 : Int → Int} {b : Int} (h0 : s0 = s1) : ∀ {n : Nat}, (∀ k : Nat, k < n → (wh k = b ↔ wh2 k = b) ∧ w k = w2 k) → bS s0 wh w b n = bS s1 wh2 w2 b n
  | 0, _ => h0
  | n + 1, h => by
    have ih := bS_iff h0 (fun k hk => h k (by omega) : ∀ k : Nat, k < n → (wh k = b ↔ wh2 k = b) ∧ w k = w2 k)
    have e := h n (by omega)
    unfold bS
    by_cases g : wh n = b
    · rw [if_pos g, if_pos (e.1.mp g), ih, e.2]
    · rw [if_neg g, if_neg (fun q => g (e.1.mpr q)), ih]
theorem CX_w {M : mM} {A : Int → Int} {ru : RU} (h : CX M A ru) : ∀ k : Nat, k < (M 2 1).toNat → 0 ≤ M 6 k ∧ M 6 k ≤ 60 := by
  intro k hk
  have h1 := h.1.2.1
  have h2 := h.2.2.2.1.2.1
  have e := h.1.2.2.2 k (by omega)
  have w := h.2.2.2.1.2.2.2.1 k (by omega)
  rw [show (6 : Nat) = 2 + 4 from rfl, e.1]
  omega
theorem a_borne {d : Nat} {M : mM} {K : mQ} {A : Int → Int} {ru : RU} (h : CX M A ru) {b : Nat} (hb : b < 6) : mCall (d + 1) 99 [vr 2, vi b] M K = K (some (vi (brn A b))) M := by
  have h1 := h.1.2.1
  have h2 := h.2.2.2.1.2.1
  have w := h.2.2.2.2.1.2.2.2.1 b hb
  have r := h.2.1.1 b hb
  rw [c_borne (by omega) (by omega) (by omega) (CX_w h)]
  congr 3
  unfold brn
  rw [h1]
  refine bS_cong r.2.2.2 (fun k hk => ?_)
  exact ⟨((h.2.1.2.1 k (by omega)).1 (by omega)), (h.1.2.2.2 k (by omega)).1⟩
theorem a_countOn {d : Nat} {M : mM} {K : mQ} {A : Int → Int} {ru : RU} (h : CX M A ru) {b : Int} : mCall (d + 2) 98 [vr 2, vi b] M K = K (some (vi (mny A b))) M := by
  have h1 := h.1.2.1
  have h2 := h.2.2.2.1.2.1
  rw [c_countOn (by omega)]
  congr 3
  unfold mny
  rw [h1]
  exact cS_cong (fun k hk => (h.2.1.2.1 k (by omega)).1 (by omega))
theorem a_noteStrung {d : Nat} {M : mM} {K : mQ} {A : Int → Int} {ru : RU} (h : CX M A ru) {b : Nat} {s ld cn : Int} (hb : b < 6) (hs : -100 ≤ s ∧ s ≤ 100) (hld : 0 ≤ ld ∧ ld ≤ 5000) (hcn : 0 ≤ cn ∧ cn ≤ 100) (hK : ∀ M', fr SC M M' → K (some (vi (ntq ru A b s ld cn))) M') : mCall (d + 4) 14 [vr 63, vi b, vi s, vi ld, vi cn] M K := by
  obtain ⟨h1, h2, h3, h4, h5, h6⟩ := h
  have w := h5.2.2.2.1 b hb
  have wl := h4.2.2.1 b hb
  have r := h2.1 b hb
  have e1 := (h1.2.2.1 b hb).1
  have e2 := h5.1
  rw [show 2 + 2 = 4 from rfl] at e1
  refine c_noteStrung h6 (by omega) hs hld hcn ⟨h3.2.1, h3.2.2.1⟩ (by omega) (by rw [h2.2.2.1]; exact e2) (by omega) (by omega) (fun M' hf => ?_)
  have := hK M' hf
  unfold ntq at this
  rw [h3.1, h2.2.2.1, e1, r.2.1, r.2.2.1]
  exact this
theorem a_noteOf {d : Nat} {M : mM} {K : mQ} {A : Int → Int} {ru : RU} (h : CX M A ru) {b : Nat} {ld cn : Int} (hb : b < 6) (hld : 0 ≤ ld ∧ ld ≤ 5000) (hcn : 0 ≤ cn ∧ cn ≤ 100) (hK : ∀ M', fr SC M M' → K (some (vi (ntq ru A b (A (83 + b)) ld cn))) M') : mCall (d + 5) 13 [vr 63, vi b, vi ld, vi cn] M K := by
  have r := (h.2.1.1 b hb).1
  have w := h.2.2.2.2.1.2.2.2.1 b hb
  simp (disch := first | decide | omega) only [b13, w13_0, w13_1, w13_2, w13_3, w13_6, w13_9, w13_10, w13_11, w13_12, w13_13, w13_14, w13_15, w13_18, tc63, tr63_0, tr63_1, tr63_3, tr63_4, tr63_5, tr63_6, ta64, tn64, ta65, tn65, ta66, tn66, ta67, tn67, tc2, tr2_2, tr2_3, tr2_4, tr2_5, tr2_6, tr2_7, tr2_8, tr2_9, tr2_12, tr2_13, tr2_15, ta3, tn3, ta4, tn4, ta5, tn5, ta6, tn6, ta7, tn7, ta8, tn8, ta9, tn9, ta10, tn10, ta11, tn11, ta12, tn12, ta13, tn13, xLoad_i, xLoad_l, xLoad_r, xInc_s, xBr_t, xBr_f, xNz_s, xGf_s, xPf_s, xPz_s, xLd_2, xLd_7, xLd_10, xLdb_3, xLdb_5, xLdb_9, xLdl_4, xLdr_6, xSt_2, xStl_4, xStb_3, xStb_5, xLen_s, xLen_10, xCpy_s, xIv_s, xMx_s, mCont_s, mCont_n, w32_s, w64_s, upC_e, upC_n, upC_u, upC_c, mEn_c, mEn_n, mcw_i, mcw_l, mcw_r, mcat_n, mcat_i, mcat_l, mcat_r, xlong_i, xlong_l, xlong_r, xlong_n, s1_at, s2_at, ↓reduceIte, reduceCtorEq, and_self, true_and, and_true, false_and, and_false, Bool.false_eq_true, ne_eq, not_true_eq_false, not_false_eq_true, or_true, true_or, or_false, false_or, or_self, Int.tmod_eq_emod_of_nonneg, Int.tdiv_eq_ediv_of_nonneg, Classical.not_not, xSw, rOK, b2i_ok, b2i_0, b2i_1, Nat.reduceAdd, Nat.reduceSub, Nat.reduceMul, Nat.reduceEqDiff, Nat.reduceLeDiff, Nat.reduceLT, Int.reduceAdd, Int.reduceSub, Int.reduceMul, Int.reduceNeg, Int.reduceEq, Int.reduceNe, Int.reduceLT, Int.reduceLE, Int.reduceToNat, Int.reduceTDiv, Int.reduceTMod, b2i_em, Int.zero_add, r]
  refine a_noteStrung h hb (by omega) hld hcn (fun M' hf => ?_)
  simp (disch := first | decide | omega) only [b13, w13_0, w13_1, w13_2, w13_3, w13_6, w13_9, w13_10, w13_11, w13_12, w13_13, w13_14, w13_15, w13_18, tc63, tr63_0, tr63_1, tr63_3, tr63_4, tr63_5, tr63_6, ta64, tn64, ta65, tn65, ta66, tn66, ta67, tn67, tc2, tr2_2, tr2_3, tr2_4, tr2_5, tr2_6, tr2_7, tr2_8, tr2_9, tr2_12, tr2_13, tr2_15, ta3, tn3, ta4, tn4, ta5, tn5, ta6, tn6, ta7, tn7, ta8, tn8, ta9, tn9, ta10, tn10, ta11, tn11, ta12, tn12, ta13, tn13, xLoad_i, xLoad_l, xLoad_r, xInc_s, xBr_t, xBr_f, xNz_s, xGf_s, xPf_s, xPz_s, xLd_2, xLd_7, xLd_10, xLdb_3, xLdb_5, xLdb_9, xLdl_4, xLdr_6, xSt_2, xStl_4, xStb_3, xStb_5, xLen_s, xLen_10, xCpy_s, xIv_s, xMx_s, mCont_s, mCont_n, w32_s, w64_s, upC_e, upC_n, upC_u, upC_c, mEn_c, mEn_n, mcw_i, mcw_l, mcw_r, mcat_n, mcat_i, mcat_l, mcat_r, xlong_i, xlong_l, xlong_r, xlong_n, s1_at, s2_at, ↓reduceIte, reduceCtorEq, and_self, true_and, and_true, false_and, and_false, Bool.false_eq_true, ne_eq, not_true_eq_false, not_false_eq_true, or_true, true_or, or_false, false_or, or_self, Int.tmod_eq_emod_of_nonneg, Int.tdiv_eq_ediv_of_nonneg, Classical.not_not, xSw, rOK, b2i_ok, b2i_0, b2i_1, Nat.reduceAdd, Nat.reduceSub, Nat.reduceMul, Nat.reduceEqDiff, Nat.reduceLeDiff, Nat.reduceLT, Int.reduceAdd, Int.reduceSub, Int.reduceMul, Int.reduceNeg, Int.reduceEq, Int.reduceNe, Int.reduceLT, Int.reduceLE, Int.reduceToNat, Int.reduceTDiv, Int.reduceTMod, b2i_em]
  exact hK M' hf
theorem a_holdsNow {d : Nat} {M : mM} {K : mQ} {A : Int → Int} {ru : RU} (h : CX M A ru) {b : Nat} (hb : b < 6) (hK : ∀ M', fr SC M M' → K (some (vi (hlA ru A b))) M') : mCall (d + 4) 15 [vr 63, vi b] M K := by
  obtain ⟨h1, h2, h3, h4, h5, h6⟩ := h
  have w := h5.2.2.2.1 b hb
  have wl := h4.2.2.1 b hb
  have r := h2.1 b hb
  have e1 := (h1.2.2.1 b hb).1
  have e2 := h5.1
  rw [show 2 + 2 = 4 from rfl] at e1
  refine c_holdsNow h6 (by omega) (by omega) ⟨h3.2.1, h3.2.2.1⟩ (by omega) (by rw [h2.2.2.1]; exact e2) (by omega) (by omega) (fun M' hf => ?_)
  have := hK M' hf
  unfold hlA at this
  rw [h3.1, h2.2.2.1, e1, r.1, r.2.1]
  exact this
theorem a_clash {d : Nat} {M : mM} {K : mQ} {A : Int → Int} {ru : RU} (h : CX M A ru) {a b : Int} (ha : 0 ≤ a ∧ a ≤ 999) (hb : 0 ≤ b ∧ b ≤ 999) (hK : ∀ M', fr SC M M' → K (some (vi (clI (ru 1) (A 80) (A 81) a b))) M') : mCall (d + 4) 17 [vr 63, vi a, vi b] M K := by
  obtain ⟨h1, h2, h3, h4, h5, h6⟩ := h
  have e2 := h5.1
  refine c_clash h6 ha hb ⟨h3.2.1, h3.2.2.1⟩ (by omega) (by rw [h2.2.2.1]; exact e2) (fun M' z hf hz hP => ?_)
  have := hK M' hf
  rw [h3.1, h2.2.2.1, ← clI_P] at hP
  rcases (clI_01 : clI (ru 1) (A 80) (A 81) a b = 0 ∨ _) with g | g
  · rw [g] at this hP
    have : z = 0 := by rcases hz with hz | hz; exact hz; exact absurd (hP.mp hz) (by decide)
    rw [this]; assumption
  · rw [g] at this
    rw [hP.mpr g]; exact this
theorem a_hearAll {d : Nat} {M : mM} {K : mQ} {A : Int → Int} {ru : RU} (h : CX M A ru) (hK : ∀ M', fr (64 :: SC) M M' → (∀ b : Nat, (b : Int) < A 0 → M' 64 b = ntA ru A b) → K none M') : mCall (d + 5) 19 [vr 63] M K := by
  have s0 := h.1.1
  have hw0 := h.2.2.2.1.1
  simp (disch := first | decide | omega) only [b19, w19_0, w19_1, w19_3, w19_4, w19_7, w19_10, w19_13, w19_14, w19_17, w19_20, w19_21, w19_22, w19_23, w19_24, w19_25, w19_26, w19_29, w19_30, w19_31, w19_32, w19_33, w19_34, w19_37, w19_38, w19_41, w19_42, w19_45, w19_46, w19_49, w19_52, w19_53, w19_56, w19_59, tc63, tr63_0, tr63_1, tr63_3, tr63_4, tr63_5, tr63_6, ta64, tn64, ta65, tn65, ta66, tn66, ta67, tn67, tc2, tr2_2, tr2_3, tr2_4, tr2_5, tr2_6, tr2_7, tr2_8, tr2_9, tr2_12, tr2_13, tr2_15, ta3, tn3, ta4, tn4, ta5, tn5, ta6, tn6, ta7, tn7, ta8, tn8, ta9, tn9, ta10, tn10, ta11, tn11, ta12, tn12, ta13, tn13, xLoad_i, xLoad_l, xLoad_r, xInc_s, xBr_t, xBr_f, xNz_s, xGf_s, xPf_s, xPz_s, xLd_2, xLd_7, xLd_10, xLdb_3, xLdb_5, xLdb_9, xLdl_4, xLdr_6, xSt_2, xStl_4, xStb_3, xStb_5, xLen_s, xLen_10, xCpy_s, xIv_s, xMx_s, mCont_s, mCont_n, w32_s, w64_s, upC_e, upC_n, upC_u, upC_c, mEn_c, mEn_n, mcw_i, mcw_l, mcw_r, mcat_n, mcat_i, mcat_l, mcat_r, xlong_i, xlong_l, xlong_r, xlong_n, s1_at, s2_at, ↓reduceIte, reduceCtorEq, and_self, true_and, and_true, false_and, and_false, Bool.false_eq_true, ne_eq, not_true_eq_false, not_false_eq_true, or_true, true_or, or_false, false_or, or_self, Int.tmod_eq_emod_of_nonneg, Int.tdiv_eq_ediv_of_nonneg, Classical.not_not, xSw, rOK, b2i_ok, b2i_0, b2i_1, Nat.reduceAdd, Nat.reduceSub, Nat.reduceMul, Nat.reduceEqDiff, Nat.reduceLeDiff, Nat.reduceLT, Int.reduceAdd, Int.reduceSub, Int.reduceMul, Int.reduceNeg, Int.reduceEq, Int.reduceNe, Int.reduceLT, Int.reduceLE, Int.reduceToNat, Int.reduceTDiv, Int.reduceTMod, b2i_em]
  refine loopL (P := fun k lv M' => fr (64 :: SC) M M' ∧ (∀ b : Nat, b < k → M' 64 b = ntA ru A b) ∧ lv 0 = some (vr 63) ∧ lv 1 = some (vi (k : Nat))) (G := fun lv M' => rn (d + 4) 19 K 2 lv [] M') (A 0).toNat 0 (Nat.zero_le _) _ _ ⟨fr_refl, fun b hb => by omega, ?_, ?_⟩ (fun k hk ih lv M' hI => ?_) (fun lv M' hI => ?_)
  any_goals (simp [s1_at, s2_at, mEn_c, mcw_r, mcw_i, mcw_l, xlong_i, xlong_r, xlong_l, xlong_n]; done)
  · obtain ⟨hf, h1, g0, g1⟩ := hI
    have hx := CX_fr h hf (by decide)
    have f2 : M' 2 = M 2 := hf 2 (by decide)
    have r := (hx.2.1.1 k (by omega)).1
    have w := h.2.2.2.2.1.2.2.2.1 k (by omega)
    have q1 := brn_780 h.2.2.2.1 h.2.2.2.2.1 (b := k) (by omega)
    have q2 := mny_12 h.2.2.2.1 k
    rw [w19_2]
    simp (disch := first | decide | omega) only [b19, w19_0, w19_1, w19_3, w19_4, w19_7, w19_10, w19_13, w19_14, w19_17, w19_20, w19_21, w19_22, w19_23, w19_24, w19_25, w19_26, w19_29, w19_30, w19_31, w19_32, w19_33, w19_34, w19_37, w19_38, w19_41, w19_42, w19_45, w19_46, w19_49, w19_52, w19_53, w19_56, w19_59, tc63, tr63_0, tr63_1, tr63_3, tr63_4, tr63_5, tr63_6, ta64, tn64, ta65, tn65, ta66, tn66, ta67, tn67, tc2, tr2_2, tr2_3, tr2_4, tr2_5, tr2_6, tr2_7, tr2_8, tr2_9, tr2_12, tr2_13, tr2_15, ta3, tn3, ta4, tn4, ta5, tn5, ta6, tn6, ta7, tn7, ta8, tn8, ta9, tn9, ta10, tn10, ta11, tn11, ta12, tn12, ta13, tn13, xLoad_i, xLoad_l, xLoad_r, xInc_s, xBr_t, xBr_f, xNz_s, xGf_s, xPf_s, xPz_s, xLd_2, xLd_7, xLd_10, xLdb_3, xLdb_5, xLdb_9, xLdl_4, xLdr_6, xSt_2, xStl_4, xStb_3, xStb_5, xLen_s, xLen_10, xCpy_s, xIv_s, xMx_s, mCont_s, mCont_n, w32_s, w64_s, upC_e, upC_n, upC_u, upC_c, mEn_c, mEn_n, mcw_i, mcw_l, mcw_r, mcat_n, mcat_i, mcat_l, mcat_r, xlong_i, xlong_l, xlong_r, xlong_n, s1_at, s2_at, ↓reduceIte, reduceCtorEq, and_self, true_and, and_true, false_and, and_false, Bool.false_eq_true, ne_eq, not_true_eq_false, not_false_eq_true, or_true, true_or, or_false, false_or, or_self, Int.tmod_eq_emod_of_nonneg, Int.tdiv_eq_ediv_of_nonneg, Classical.not_not, xSw, rOK, b2i_ok, b2i_0, b2i_1, Nat.reduceAdd, Nat.reduceSub, Nat.reduceMul, Nat.reduceEqDiff, Nat.reduceLeDiff, Nat.reduceLT, Int.reduceAdd, Int.reduceSub, Int.reduceMul, Int.reduceNeg, Int.reduceEq, Int.reduceNe, Int.reduceLT, Int.reduceLE, Int.reduceToNat, Int.reduceTDiv, Int.reduceTMod, b2i_em, g0, g1, f2, s0, Int.zero_add, r]
    rw [a_borne hx (by omega)]
    simp (disch := first | decide | omega) only [b19, w19_0, w19_1, w19_3, w19_4, w19_7, w19_10, w19_13, w19_14, w19_17, w19_20, w19_21, w19_22, w19_23, w19_24, w19_25, w19_26, w19_29, w19_30, w19_31, w19_32, w19_33, w19_34, w19_37, w19_38, w19_41, w19_42, w19_45, w19_46, w19_49, w19_52, w19_53, w19_56, w19_59, tc63, tr63_0, tr63_1, tr63_3, tr63_4, tr63_5, tr63_6, ta64, tn64, ta65, tn65, ta66, tn66, ta67, tn67, tc2, tr2_2, tr2_3, tr2_4, tr2_5, tr2_6, tr2_7, tr2_8, tr2_9, tr2_12, tr2_13, tr2_15, ta3, tn3, ta4, tn4, ta5, tn5, ta6, tn6, ta7, tn7, ta8, tn8, ta9, tn9, ta10, tn10, ta11, tn11, ta12, tn12, ta13, tn13, xLoad_i, xLoad_l, xLoad_r, xInc_s, xBr_t, xBr_f, xNz_s, xGf_s, xPf_s, xPz_s, xLd_2, xLd_7, xLd_10, xLdb_3, xLdb_5, xLdb_9, xLdl_4, xLdr_6, xSt_2, xStl_4, xStb_3, xStb_5, xLen_s, xLen_10, xCpy_s, xIv_s, xMx_s, mCont_s, mCont_n, w32_s, w64_s, upC_e, upC_n, upC_u, upC_c, mEn_c, mEn_n, mcw_i, mcw_l, mcw_r, mcat_n, mcat_i, mcat_l, mcat_r, xlong_i, xlong_l, xlong_r, xlong_n, s1_at, s2_at, ↓reduceIte, reduceCtorEq, and_self, true_and, and_true, false_and, and_false, Bool.false_eq_true, ne_eq, not_true_eq_false, not_false_eq_true, or_true, true_or, or_false, false_or, or_self, Int.tmod_eq_emod_of_nonneg, Int.tdiv_eq_ediv_of_nonneg, Classical.not_not, xSw, rOK, b2i_ok, b2i_0, b2i_1, Nat.reduceAdd, Nat.reduceSub, Nat.reduceMul, Nat.reduceEqDiff, Nat.reduceLeDiff, Nat.reduceLT, Int.reduceAdd, Int.reduceSub, Int.reduceMul, Int.reduceNeg, Int.reduceEq, Int.reduceNe, Int.reduceLT, Int.reduceLE, Int.reduceToNat, Int.reduceTDiv, Int.reduceTMod, b2i_em, g0, g1, f2, s0, Int.zero_add, r]
    rw [a_countOn hx]
    simp (disch := first | decide | omega) only [b19, w19_0, w19_1, w19_3, w19_4, w19_7, w19_10, w19_13, w19_14, w19_17, w19_20, w19_21, w19_22, w19_23, w19_24, w19_25, w19_26, w19_29, w19_30, w19_31, w19_32, w19_33, w19_34, w19_37, w19_38, w19_41, w19_42, w19_45, w19_46, w19_49, w19_52, w19_53, w19_56, w19_59, tc63, tr63_0, tr63_1, tr63_3, tr63_4, tr63_5, tr63_6, ta64, tn64, ta65, tn65, ta66, tn66, ta67, tn67, tc2, tr2_2, tr2_3, tr2_4, tr2_5, tr2_6, tr2_7, tr2_8, tr2_9, tr2_12, tr2_13, tr2_15, ta3, tn3, ta4, tn4, ta5, tn5, ta6, tn6, ta7, tn7, ta8, tn8, ta9, tn9, ta10, tn10, ta11, tn11, ta12, tn12, ta13, tn13, xLoad_i, xLoad_l, xLoad_r, xInc_s, xBr_t, xBr_f, xNz_s, xGf_s, xPf_s, xPz_s, xLd_2, xLd_7, xLd_10, xLdb_3, xLdb_5, xLdb_9, xLdl_4, xLdr_6, xSt_2, xStl_4, xStb_3, xStb_5, xLen_s, xLen_10, xCpy_s, xIv_s, xMx_s, mCont_s, mCont_n, w32_s, w64_s, upC_e, upC_n, upC_u, upC_c, mEn_c, mEn_n, mcw_i, mcw_l, mcw_r, mcat_n, mcat_i, mcat_l, mcat_r, xlong_i, xlong_l, xlong_r, xlong_n, s1_at, s2_at, ↓reduceIte, reduceCtorEq, and_self, true_and, and_true, false_and, and_false, Bool.false_eq_true, ne_eq, not_true_eq_false, not_false_eq_true, or_true, true_or, or_false, false_or, or_self, Int.tmod_eq_emod_of_nonneg, Int.tdiv_eq_ediv_of_nonneg, Classical.not_not, xSw, rOK, b2i_ok, b2i_0, b2i_1, Nat.reduceAdd, Nat.reduceSub, Nat.reduceMul, Nat.reduceEqDiff, Nat.reduceLeDiff, Nat.reduceLT, Int.reduceAdd, Int.reduceSub, Int.reduceMul, Int.reduceNeg, Int.reduceEq, Int.reduceNe, Int.reduceLT, Int.reduceLE, Int.reduceToNat, Int.reduceTDiv, Int.reduceTMod, b2i_em, g0, g1, f2, s0, Int.zero_add, r]
    refine a_noteStrung hx (by omega) (by omega) (by omega) (by omega) (fun M2 hf2 => ?_)
    simp (disch := first | decide | omega) only [b19, w19_0, w19_1, w19_3, w19_4, w19_7, w19_10, w19_13, w19_14, w19_17, w19_20, w19_21, w19_22, w19_23, w19_24, w19_25, w19_26, w19_29, w19_30, w19_31, w19_32, w19_33, w19_34, w19_37, w19_38, w19_41, w19_42, w19_45, w19_46, w19_49, w19_52, w19_53, w19_56, w19_59, tc63, tr63_0, tr63_1, tr63_3, tr63_4, tr63_5, tr63_6, ta64, tn64, ta65, tn65, ta66, tn66, ta67, tn67, tc2, tr2_2, tr2_3, tr2_4, tr2_5, tr2_6, tr2_7, tr2_8, tr2_9, tr2_12, tr2_13, tr2_15, ta3, tn3, ta4, tn4, ta5, tn5, ta6, tn6, ta7, tn7, ta8, tn8, ta9, tn9, ta10, tn10, ta11, tn11, ta12, tn12, ta13, tn13, xLoad_i, xLoad_l, xLoad_r, xInc_s, xBr_t, xBr_f, xNz_s, xGf_s, xPf_s, xPz_s, xLd_2, xLd_7, xLd_10, xLdb_3, xLdb_5, xLdb_9, xLdl_4, xLdr_6, xSt_2, xStl_4, xStb_3, xStb_5, xLen_s, xLen_10, xCpy_s, xIv_s, xMx_s, mCont_s, mCont_n, w32_s, w64_s, upC_e, upC_n, upC_u, upC_c, mEn_c, mEn_n, mcw_i, mcw_l, mcw_r, mcat_n, mcat_i, mcat_l, mcat_r, xlong_i, xlong_l, xlong_r, xlong_n, s1_at, s2_at, ↓reduceIte, reduceCtorEq, and_self, true_and, and_true, false_and, and_false, Bool.false_eq_true, ne_eq, not_true_eq_false, not_false_eq_true, or_true, true_or, or_false, false_or, or_self, Int.tmod_eq_emod_of_nonneg, Int.tdiv_eq_ediv_of_nonneg, Classical.not_not, xSw, rOK, b2i_ok, b2i_0, b2i_1, Nat.reduceAdd, Nat.reduceSub, Nat.reduceMul, Nat.reduceEqDiff, Nat.reduceLeDiff, Nat.reduceLT, Int.reduceAdd, Int.reduceSub, Int.reduceMul, Int.reduceNeg, Int.reduceEq, Int.reduceNe, Int.reduceLT, Int.reduceLE, Int.reduceToNat, Int.reduceTDiv, Int.reduceTMod, b2i_em, g0, g1]
    refine ih _ _ ⟨fr_up (by decide) (fr_tr hf hf2 (by decide) (by decide)), fun b hb => ?_, ?_, ?_⟩
    any_goals (simp [s1_at, s2_at, mEn_c, mcw_r, mcw_i, mcw_l, xlong_i, xlong_r, xlong_l, xlong_n, g0, g1]; done)
    rcases (show b = k ∨ b < k by omega) with rfl | hb2
    · simp (disch := first | decide | omega) only [upC_e, upC_n, mU_e, mU_n]
      rfl
    · simp (disch := first | decide | omega) only [upC_e, upC_n, mU_e, mU_n]
      rw [hf2 64 (by decide)]
      exact h1 b hb2
  · obtain ⟨hf, h1, g0, g1⟩ := hI
    have f2 : M' 2 = M 2 := hf 2 (by decide)
    rw [w19_2]
    simp (disch := first | decide | omega) only [b19, w19_0, w19_1, w19_3, w19_4, w19_7, w19_10, w19_13, w19_14, w19_17, w19_20, w19_21, w19_22, w19_23, w19_24, w19_25, w19_26, w19_29, w19_30, w19_31, w19_32, w19_33, w19_34, w19_37, w19_38, w19_41, w19_42, w19_45, w19_46, w19_49, w19_52, w19_53, w19_56, w19_59, tc63, tr63_0, tr63_1, tr63_3, tr63_4, tr63_5, tr63_6, ta64, tn64, ta65, tn65, ta66, tn66, ta67, tn67, tc2, tr2_2, tr2_3, tr2_4, tr2_5, tr2_6, tr2_7, tr2_8, tr2_9, tr2_12, tr2_13, tr2_15, ta3, tn3, ta4, tn4, ta5, tn5, ta6, tn6, ta7, tn7, ta8, tn8, ta9, tn9, ta10, tn10, ta11, tn11, ta12, tn12, ta13, tn13, xLoad_i, xLoad_l, xLoad_r, xInc_s, xBr_t, xBr_f, xNz_s, xGf_s, xPf_s, xPz_s, xLd_2, xLd_7, xLd_10, xLdb_3, xLdb_5, xLdb_9, xLdl_4, xLdr_6, xSt_2, xStl_4, xStb_3, xStb_5, xLen_s, xLen_10, xCpy_s, xIv_s, xMx_s, mCont_s, mCont_n, w32_s, w64_s, upC_e, upC_n, upC_u, upC_c, mEn_c, mEn_n, mcw_i, mcw_l, mcw_r, mcat_n, mcat_i, mcat_l, mcat_r, xlong_i, xlong_l, xlong_r, xlong_n, s1_at, s2_at, ↓reduceIte, reduceCtorEq, and_self, true_and, and_true, false_and, and_false, Bool.false_eq_true, ne_eq, not_true_eq_false, not_false_eq_true, or_true, true_or, or_false, false_or, or_self, Int.tmod_eq_emod_of_nonneg, Int.tdiv_eq_ediv_of_nonneg, Classical.not_not, xSw, rOK, b2i_ok, b2i_0, b2i_1, Nat.reduceAdd, Nat.reduceSub, Nat.reduceMul, Nat.reduceEqDiff, Nat.reduceLeDiff, Nat.reduceLT, Int.reduceAdd, Int.reduceSub, Int.reduceMul, Int.reduceNeg, Int.reduceEq, Int.reduceNe, Int.reduceLT, Int.reduceLE, Int.reduceToNat, Int.reduceTDiv, Int.reduceTMod, b2i_em, g0, g1, f2, s0]
    exact hK M' hf (fun b hb => h1 b (by omega))
set_option maxHeartbeats 1000000 in
theorem a_findFalse {d : Nat} {M : mM} {K : mQ} {A nt : Int → Int} {ru : RU} (h : CX M A ru) (hn : ∀ b : Nat, (b : Int) < A 0 → M 64 b = nt b ∧ 0 ≤ nt b ∧ nt b ≤ 999) {en : Nat} (he : 1 ≤ en ∧ en ≤ 15) (hK : ∀ M', fr (65 :: SC) M M' → (∀ c, c < 36 → fpG ru A nt c = 1 → cn (fpG ru A nt) c < en → M' 65 (cn (fpG ru A nt) c) = c) → K (some (vi (min (cn (fpG ru A nt) 36) en : Nat))) M') : mCall (d + 5) 20 [vr 63, vi en] M K := by
  have s0 := h.1.1
  have hw0 := h.2.2.2.1.1
  simp (disch := first | decide | omega) only [b20, w20_0, w20_1, w20_2, w20_3, w20_5, w20_6, w20_9, w20_12, w20_15, w20_16, w20_17, w20_18, w20_20, w20_22, w20_23, w20_26, w20_29, w20_32, w20_33, w20_34, w20_37, w20_38, w20_41, w20_44, w20_45, w20_46, w20_48, w20_51, w20_54, w20_55, w20_56, w20_59, w20_60, w20_61, w20_62, w20_65, w20_67, w20_68, w20_71, w20_74, w20_77, w20_78, w20_81, w20_82, w20_83, w20_85, w20_86, w20_88, w20_89, w20_90, w20_93, w20_96, w20_99, w20_102, w20_105, w20_106, tc63, tr63_0, tr63_1, tr63_3, tr63_4, tr63_5, tr63_6, ta64, tn64, ta65, tn65, ta66, tn66, ta67, tn67, tc2, tr2_2, tr2_3, tr2_4, tr2_5, tr2_6, tr2_7, tr2_8, tr2_9, tr2_12, tr2_13, tr2_15, ta3, tn3, ta4, tn4, ta5, tn5, ta6, tn6, ta7, tn7, ta8, tn8, ta9, tn9, ta10, tn10, ta11, tn11, ta12, tn12, ta13, tn13, xLoad_i, xLoad_l, xLoad_r, xInc_s, xBr_t, xBr_f, xNz_s, xGf_s, xPf_s, xPz_s, xLd_2, xLd_7, xLd_10, xLdb_3, xLdb_5, xLdb_9, xLdl_4, xLdr_6, xSt_2, xStl_4, xStb_3, xStb_5, xLen_s, xLen_10, xCpy_s, xIv_s, xMx_s, mCont_s, mCont_n, w32_s, w64_s, upC_e, upC_n, upC_u, upC_c, mEn_c, mEn_n, mcw_i, mcw_l, mcw_r, mcat_n, mcat_i, mcat_l, mcat_r, xlong_i, xlong_l, xlong_r, xlong_n, s1_at, s2_at, ↓reduceIte, reduceCtorEq, and_self, true_and, and_true, false_and, and_false, Bool.false_eq_true, ne_eq, not_true_eq_false, not_false_eq_true, or_true, true_or, or_false, false_or, or_self, Int.tmod_eq_emod_of_nonneg, Int.tdiv_eq_ediv_of_nonneg, Classical.not_not, xSw, rOK, b2i_ok, b2i_0, b2i_1, Nat.reduceAdd, Nat.reduceSub, Nat.reduceMul, Nat.reduceEqDiff, Nat.reduceLeDiff, Nat.reduceLT, Int.reduceAdd, Int.reduceSub, Int.reduceMul, Int.reduceNeg, Int.reduceEq, Int.reduceNe, Int.reduceLT, Int.reduceLE, Int.reduceToNat, Int.reduceTDiv, Int.reduceTMod, b2i_em]
  refine loopL (P := fun k lv M' => fr (65 :: SC) M M' ∧ (∀ c, c < 6 * k → fpG ru A nt c = 1 → cn (fpG ru A nt) c < en → M' 65 (cn (fpG ru A nt) c) = c) ∧ lv 0 = some (vr 63) ∧ lv 1 = some (vi en) ∧ lv 2 = some (vi (min (cn (fpG ru A nt) (6 * k)) en : Nat)) ∧ lv 3 = some (vi (k : Nat))) (G := fun lv M' => rn (d + 4) 20 K 4 lv [] M') (A 0).toNat 0 (Nat.zero_le _) _ _ ⟨fr_refl, fun b hb => by omega, ?_, ?_, ?_, ?_⟩ (fun p hp ih lv M' hI => ?_) (fun lv M' hI => ?_)
  any_goals (simp [s1_at, s2_at, mEn_c, mcw_r, mcw_i, mcw_l, xlong_i, xlong_r, xlong_l, xlong_n, cn]; done)
  · obtain ⟨hf, h1, g0, g1, g2, g3⟩ := hI
    have f2 : M' 2 = M 2 := hf 2 (by decide)
    have hs1 : cn (fpG ru A nt) (6 * p + (p + 1)) = cn (fpG ru A nt) (6 * p) := cn_skip (by omega) (fun c h1 h2 h3 => by have := (fpG_F h3).1; omega)
    rw [w20_4]
    simp (disch := first | decide | omega) only [b20, w20_0, w20_1, w20_2, w20_3, w20_5, w20_6, w20_9, w20_12, w20_15, w20_16, w20_17, w20_18, w20_22, w20_23, w20_26, w20_29, w20_32, w20_33, w20_34, w20_37, w20_38, w20_41, w20_44, w20_45, w20_46, w20_48, w20_51, w20_54, w20_55, w20_56, w20_59, w20_60, w20_61, w20_62, w20_65, w20_67, w20_68, w20_71, w20_74, w20_77, w20_78, w20_81, w20_82, w20_83, w20_85, w20_86, w20_88, w20_89, w20_90, w20_93, w20_96, w20_99, w20_102, w20_105, w20_106, tc63, tr63_0, tr63_1, tr63_3, tr63_4, tr63_5, tr63_6, ta64, tn64, ta65, tn65, ta66, tn66, ta67, tn67, tc2, tr2_2, tr2_3, tr2_4, tr2_5, tr2_6, tr2_7, tr2_8, tr2_9, tr2_12, tr2_13, tr2_15, ta3, tn3, ta4, tn4, ta5, tn5, ta6, tn6, ta7, tn7, ta8, tn8, ta9, tn9, ta10, tn10, ta11, tn11, ta12, tn12, ta13, tn13, xLoad_i, xLoad_l, xLoad_r, xInc_s, xBr_t, xBr_f, xNz_s, xGf_s, xPf_s, xPz_s, xLd_2, xLd_7, xLd_10, xLdb_3, xLdb_5, xLdb_9, xLdl_4, xLdr_6, xSt_2, xStl_4, xStb_3, xStb_5, xLen_s, xLen_10, xCpy_s, xIv_s, xMx_s, mCont_s, mCont_n, w32_s, w64_s, upC_e, upC_n, upC_u, upC_c, mEn_c, mEn_n, mcw_i, mcw_l, mcw_r, mcat_n, mcat_i, mcat_l, mcat_r, xlong_i, xlong_l, xlong_r, xlong_n, s1_at, s2_at, ↓reduceIte, reduceCtorEq, and_self, true_and, and_true, false_and, and_false, Bool.false_eq_true, ne_eq, not_true_eq_false, not_false_eq_true, or_true, true_or, or_false, false_or, or_self, Int.tmod_eq_emod_of_nonneg, Int.tdiv_eq_ediv_of_nonneg, Classical.not_not, xSw, rOK, b2i_ok, b2i_0, b2i_1, Nat.reduceAdd, Nat.reduceSub, Nat.reduceMul, Nat.reduceEqDiff, Nat.reduceLeDiff, Nat.reduceLT, Int.reduceAdd, Int.reduceSub, Int.reduceMul, Int.reduceNeg, Int.reduceEq, Int.reduceNe, Int.reduceLT, Int.reduceLE, Int.reduceToNat, Int.reduceTDiv, Int.reduceTMod, b2i_em, g0, g1, g2, g3, f2, s0]
    refine loopL (P := fun k lv M' => p < k ∧ fr (65 :: SC) M M' ∧ (∀ c, c < 6 * p + k → fpG ru A nt c = 1 → cn (fpG ru A nt) c < en → M' 65 (cn (fpG ru A nt) c) = c) ∧ lv 0 = some (vr 63) ∧ lv 1 = some (vi en) ∧ lv 2 = some (vi (min (cn (fpG ru A nt) (6 * p + k)) en : Nat)) ∧ lv 3 = some (vi (p : Nat)) ∧ lv 4 = some (vi (k : Nat))) (G := fun lv M' => rn (d + 4) 20 K 20 lv [] M') (A 0).toNat (p + 1) (by omega) _ _ ⟨by omega, hf, fun c hc h2 h3 => h1 c (by have := fpG_F h2; omega) h2 h3, ?_, ?_, ?_, ?_, ?_⟩ (fun q hq ih2 lv M' hI => ?_) (fun lv M' hI => ?_)
    any_goals (simp [s1_at, s2_at, mEn_c, mcw_r, mcw_i, mcw_l, xlong_i, xlong_r, xlong_l, xlong_n, g0, g1, g2, g3, hs1]; done)
    · obtain ⟨hpq, hf, h1, g0, g1, g2, g3, g4⟩ := hI
      have f2 : M' 2 = M 2 := hf 2 (by decide)
      have f5 : M' 5 = M 5 := hf 5 (by decide)
      have f64 : M' 64 = M 64 := hf 64 (by decide)
      have n1 := hn p (by omega)
      have n2 := hn q (by omega)
      have e5 : M 5 p = A (16 + p) := (h.1.2.2.1 p (by omega)).2
      have hat := fpG_at (ru := ru) (A := A) (nt := nt) hpq (show q < 6 by omega) (by omega)
      have h15 := fpG_15 (ru := ru) (A := A) (nt := nt) (c := 6 * p + q) (by omega) (by omega)
      have hcn : cn (fpG ru A nt) (6 * p + (q + 1)) = if fpG ru A nt (6 * p + q) = 1 then cn (fpG ru A nt) (6 * p + q) + 1 else cn (fpG ru A nt) (6 * p + q) := rfl
      have hnew : fpG ru A nt (6 * p + q) ≠ 1 ∨ en ≤ cn (fpG ru A nt) (6 * p + q) → ∀ c, c < 6 * p + (q + 1) → fpG ru A nt c = 1 → cn (fpG ru A nt) c < en → M' 65 (cn (fpG ru A nt) c) = c := by
        intro hz c hc h2 h3
        refine h1 c ?_ h2 h3
        rcases (show c = 6 * p + q ∨ c < 6 * p + q by omega) with rfl | z
        · rcases hz with hz | hz
          · exact absurd h2 hz
          · omega
        · exact z
      rw [w20_20]
      by_cases hen : cn (fpG ru A nt) (6 * p + q) < en
      · have e4 : min (cn (fpG ru A nt) (6 * p + q)) en = cn (fpG ru A nt) (6 * p + q) := by omega
        rw [e4] at g2
        by_cases hbit : iAnd (iShr (A (16 + p)) q) 1 = 1
        · rw [if_pos hbit] at hat
          simp (disch := first | decide | omega) only [b20, w20_0, w20_1, w20_2, w20_3, w20_5, w20_6, w20_9, w20_12, w20_15, w20_16, w20_17, w20_18, w20_22, w20_23, w20_26, w20_29, w20_32, w20_33, w20_34, w20_37, w20_38, w20_41, w20_44, w20_45, w20_46, w20_48, w20_51, w20_54, w20_55, w20_56, w20_59, w20_60, w20_61, w20_62, w20_65, w20_67, w20_68, w20_71, w20_74, w20_77, w20_78, w20_81, w20_82, w20_83, w20_85, w20_86, w20_88, w20_89, w20_90, w20_93, w20_96, w20_99, w20_102, w20_105, w20_106, tc63, tr63_0, tr63_1, tr63_3, tr63_4, tr63_5, tr63_6, ta64, tn64, ta65, tn65, ta66, tn66, ta67, tn67, tc2, tr2_2, tr2_3, tr2_4, tr2_5, tr2_6, tr2_7, tr2_8, tr2_9, tr2_12, tr2_13, tr2_15, ta3, tn3, ta4, tn4, ta5, tn5, ta6, tn6, ta7, tn7, ta8, tn8, ta9, tn9, ta10, tn10, ta11, tn11, ta12, tn12, ta13, tn13, xLoad_i, xLoad_l, xLoad_r, xInc_s, xBr_t, xBr_f, xNz_s, xGf_s, xPf_s, xPz_s, xLd_2, xLd_7, xLd_10, xLdb_3, xLdb_5, xLdb_9, xLdl_4, xLdr_6, xSt_2, xStl_4, xStb_3, xStb_5, xLen_s, xLen_10, xCpy_s, xIv_s, xMx_s, mCont_s, mCont_n, w32_s, w64_s, upC_e, upC_n, upC_u, upC_c, mEn_c, mEn_n, mcw_i, mcw_l, mcw_r, mcat_n, mcat_i, mcat_l, mcat_r, xlong_i, xlong_l, xlong_r, xlong_n, s1_at, s2_at, ↓reduceIte, reduceCtorEq, and_self, true_and, and_true, false_and, and_false, Bool.false_eq_true, ne_eq, not_true_eq_false, not_false_eq_true, or_true, true_or, or_false, false_or, or_self, Int.tmod_eq_emod_of_nonneg, Int.tdiv_eq_ediv_of_nonneg, Classical.not_not, xSw, rOK, b2i_ok, b2i_0, b2i_1, Nat.reduceAdd, Nat.reduceSub, Nat.reduceMul, Nat.reduceEqDiff, Nat.reduceLeDiff, Nat.reduceLT, Int.reduceAdd, Int.reduceSub, Int.reduceMul, Int.reduceNeg, Int.reduceEq, Int.reduceNe, Int.reduceLT, Int.reduceLE, Int.reduceToNat, Int.reduceTDiv, Int.reduceTMod, b2i_em, g0, g1, g2, g3, g4, f2, s0, f5, e5, c_isIn, hbit, b2i_t, f64, n1.1, n2.1]
          refine a_clash (CX_fr h hf (by decide)) n1.2 n2.2 (fun M2 hf2 => ?_)
          rcases (clI_01 : clI (ru 1) (A 80) (A 81) (nt p) (nt q) = 0 ∨ _) with hz | hz
          · rw [hz] at hat ⊢
            rw [hat, if_neg (by decide)] at hcn
            simp (disch := first | decide | omega) only [b20, w20_0, w20_1, w20_2, w20_3, w20_5, w20_6, w20_9, w20_12, w20_15, w20_16, w20_17, w20_18, w20_22, w20_23, w20_26, w20_29, w20_32, w20_33, w20_34, w20_37, w20_38, w20_41, w20_44, w20_45, w20_46, w20_48, w20_51, w20_54, w20_55, w20_56, w20_59, w20_60, w20_61, w20_62, w20_65, w20_67, w20_68, w20_71, w20_74, w20_77, w20_78, w20_81, w20_82, w20_83, w20_85, w20_86, w20_88, w20_89, w20_90, w20_93, w20_96, w20_99, w20_102, w20_105, w20_106, tc63, tr63_0, tr63_1, tr63_3, tr63_4, tr63_5, tr63_6, ta64, tn64, ta65, tn65, ta66, tn66, ta67, tn67, tc2, tr2_2, tr2_3, tr2_4, tr2_5, tr2_6, tr2_7, tr2_8, tr2_9, tr2_12, tr2_13, tr2_15, ta3, tn3, ta4, tn4, ta5, tn5, ta6, tn6, ta7, tn7, ta8, tn8, ta9, tn9, ta10, tn10, ta11, tn11, ta12, tn12, ta13, tn13, xLoad_i, xLoad_l, xLoad_r, xInc_s, xBr_t, xBr_f, xNz_s, xGf_s, xPf_s, xPz_s, xLd_2, xLd_7, xLd_10, xLdb_3, xLdb_5, xLdb_9, xLdl_4, xLdr_6, xSt_2, xStl_4, xStb_3, xStb_5, xLen_s, xLen_10, xCpy_s, xIv_s, xMx_s, mCont_s, mCont_n, w32_s, w64_s, upC_e, upC_n, upC_u, upC_c, mEn_c, mEn_n, mcw_i, mcw_l, mcw_r, mcat_n, mcat_i, mcat_l, mcat_r, xlong_i, xlong_l, xlong_r, xlong_n, s1_at, s2_at, ↓reduceIte, reduceCtorEq, and_self, true_and, and_true, false_and, and_false, Bool.false_eq_true, ne_eq, not_true_eq_false, not_false_eq_true, or_true, true_or, or_false, false_or, or_self, Int.tmod_eq_emod_of_nonneg, Int.tdiv_eq_ediv_of_nonneg, Classical.not_not, xSw, rOK, b2i_ok, b2i_0, b2i_1, Nat.reduceAdd, Nat.reduceSub, Nat.reduceMul, Nat.reduceEqDiff, Nat.reduceLeDiff, Nat.reduceLT, Int.reduceAdd, Int.reduceSub, Int.reduceMul, Int.reduceNeg, Int.reduceEq, Int.reduceNe, Int.reduceLT, Int.reduceLE, Int.reduceToNat, Int.reduceTDiv, Int.reduceTMod, b2i_em, g0, g1, g2, g3, g4]
            refine ih2 _ _ ⟨by omega, fr_tr hf hf2 (by decide) (by decide), by rw [hf2 65 (by decide)]; exact hnew (Or.inl (by rw [hat]; decide)), ?_, ?_, ?_, ?_, ?_⟩
            all_goals simp [s1_at, s2_at, mEn_c, mcw_r, mcw_i, mcw_l, xlong_i, xlong_r, xlong_l, xlong_n, g0, g1, g2, g3, g4, hcn, e4]
          · rw [hz] at hat ⊢
            rw [hat, if_pos rfl] at hcn
            have e6 : min (cn (fpG ru A nt) (6 * p + q) + 1) en = cn (fpG ru A nt) (6 * p + q) + 1 := by omega
            simp (disch := first | decide | omega) only [b20, w20_0, w20_1, w20_2, w20_3, w20_5, w20_6, w20_9, w20_12, w20_15, w20_16, w20_17, w20_18, w20_22, w20_23, w20_26, w20_29, w20_32, w20_33, w20_34, w20_37, w20_38, w20_41, w20_44, w20_45, w20_46, w20_48, w20_51, w20_54, w20_55, w20_56, w20_59, w20_60, w20_61, w20_62, w20_65, w20_67, w20_68, w20_71, w20_74, w20_77, w20_78, w20_81, w20_82, w20_83, w20_85, w20_86, w20_88, w20_89, w20_90, w20_93, w20_96, w20_99, w20_102, w20_105, w20_106, tc63, tr63_0, tr63_1, tr63_3, tr63_4, tr63_5, tr63_6, ta64, tn64, ta65, tn65, ta66, tn66, ta67, tn67, tc2, tr2_2, tr2_3, tr2_4, tr2_5, tr2_6, tr2_7, tr2_8, tr2_9, tr2_12, tr2_13, tr2_15, ta3, tn3, ta4, tn4, ta5, tn5, ta6, tn6, ta7, tn7, ta8, tn8, ta9, tn9, ta10, tn10, ta11, tn11, ta12, tn12, ta13, tn13, xLoad_i, xLoad_l, xLoad_r, xInc_s, xBr_t, xBr_f, xNz_s, xGf_s, xPf_s, xPz_s, xLd_2, xLd_7, xLd_10, xLdb_3, xLdb_5, xLdb_9, xLdl_4, xLdr_6, xSt_2, xStl_4, xStb_3, xStb_5, xLen_s, xLen_10, xCpy_s, xIv_s, xMx_s, mCont_s, mCont_n, w32_s, w64_s, upC_e, upC_n, upC_u, upC_c, mEn_c, mEn_n, mcw_i, mcw_l, mcw_r, mcat_n, mcat_i, mcat_l, mcat_r, xlong_i, xlong_l, xlong_r, xlong_n, s1_at, s2_at, ↓reduceIte, reduceCtorEq, and_self, true_and, and_true, false_and, and_false, Bool.false_eq_true, ne_eq, not_true_eq_false, not_false_eq_true, or_true, true_or, or_false, false_or, or_self, Int.tmod_eq_emod_of_nonneg, Int.tdiv_eq_ediv_of_nonneg, Classical.not_not, xSw, rOK, b2i_ok, b2i_0, b2i_1, Nat.reduceAdd, Nat.reduceSub, Nat.reduceMul, Nat.reduceEqDiff, Nat.reduceLeDiff, Nat.reduceLT, Int.reduceAdd, Int.reduceSub, Int.reduceMul, Int.reduceNeg, Int.reduceEq, Int.reduceNe, Int.reduceLT, Int.reduceLE, Int.reduceToNat, Int.reduceTDiv, Int.reduceTMod, b2i_em, g0, g1, g2, g3, g4]
            refine ih2 _ _ ⟨by omega, fr_up (by decide) (fr_tr hf hf2 (by decide) (by decide)), fun c hc h2 h3 => ?_, ?_, ?_, ?_, ?_, ?_⟩
            any_goals (simp [s1_at, s2_at, mEn_c, mcw_r, mcw_i, mcw_l, xlong_i, xlong_r, xlong_l, xlong_n, g0, g1, g2, g3, g4, hcn, e6]; done)
            rcases (show c = 6 * p + q ∨ c < 6 * p + q by omega) with rfl | z
            · simp (disch := first | decide | omega) only [upC_e, upC_n, mU_e, mU_n]
              omega
            · have := cn_lt z h2
              simp (disch := first | decide | omega) only [upC_e, upC_n, mU_e, mU_n]
              rw [hf2 65 (by decide)]
              exact h1 c z h2 h3
        · rw [if_neg hbit] at hat
          rw [hat, if_neg (by decide)] at hcn
          simp (disch := first | decide | omega) only [b20, w20_0, w20_1, w20_2, w20_3, w20_5, w20_6, w20_9, w20_12, w20_15, w20_16, w20_17, w20_18, w20_22, w20_23, w20_26, w20_29, w20_32, w20_33, w20_34, w20_37, w20_38, w20_41, w20_44, w20_45, w20_46, w20_48, w20_51, w20_54, w20_55, w20_56, w20_59, w20_60, w20_61, w20_62, w20_65, w20_67, w20_68, w20_71, w20_74, w20_77, w20_78, w20_81, w20_82, w20_83, w20_85, w20_86, w20_88, w20_89, w20_90, w20_93, w20_96, w20_99, w20_102, w20_105, w20_106, tc63, tr63_0, tr63_1, tr63_3, tr63_4, tr63_5, tr63_6, ta64, tn64, ta65, tn65, ta66, tn66, ta67, tn67, tc2, tr2_2, tr2_3, tr2_4, tr2_5, tr2_6, tr2_7, tr2_8, tr2_9, tr2_12, tr2_13, tr2_15, ta3, tn3, ta4, tn4, ta5, tn5, ta6, tn6, ta7, tn7, ta8, tn8, ta9, tn9, ta10, tn10, ta11, tn11, ta12, tn12, ta13, tn13, xLoad_i, xLoad_l, xLoad_r, xInc_s, xBr_t, xBr_f, xNz_s, xGf_s, xPf_s, xPz_s, xLd_2, xLd_7, xLd_10, xLdb_3, xLdb_5, xLdb_9, xLdl_4, xLdr_6, xSt_2, xStl_4, xStb_3, xStb_5, xLen_s, xLen_10, xCpy_s, xIv_s, xMx_s, mCont_s, mCont_n, w32_s, w64_s, upC_e, upC_n, upC_u, upC_c, mEn_c, mEn_n, mcw_i, mcw_l, mcw_r, mcat_n, mcat_i, mcat_l, mcat_r, xlong_i, xlong_l, xlong_r, xlong_n, s1_at, s2_at, ↓reduceIte, reduceCtorEq, and_self, true_and, and_true, false_and, and_false, Bool.false_eq_true, ne_eq, not_true_eq_false, not_false_eq_true, or_true, true_or, or_false, false_or, or_self, Int.tmod_eq_emod_of_nonneg, Int.tdiv_eq_ediv_of_nonneg, Classical.not_not, xSw, rOK, b2i_ok, b2i_0, b2i_1, Nat.reduceAdd, Nat.reduceSub, Nat.reduceMul, Nat.reduceEqDiff, Nat.reduceLeDiff, Nat.reduceLT, Int.reduceAdd, Int.reduceSub, Int.reduceMul, Int.reduceNeg, Int.reduceEq, Int.reduceNe, Int.reduceLT, Int.reduceLE, Int.reduceToNat, Int.reduceTDiv, Int.reduceTMod, b2i_em, g0, g1, g2, g3, g4, f2, s0, f5, e5, c_isIn, hbit, b2i_f]
          refine ih2 _ _ ⟨by omega, hf, hnew (Or.inl (by rw [hat]; decide)), ?_, ?_, ?_, ?_, ?_⟩
          all_goals simp [s1_at, s2_at, mEn_c, mcw_r, mcw_i, mcw_l, xlong_i, xlong_r, xlong_l, xlong_n, g0, g1, g2, g3, g4, hcn, e4]
      · have e4 : min (cn (fpG ru A nt) (6 * p + q)) en = en := by omega
        rw [e4] at g2
        simp (disch := first | decide | omega) only [b20, w20_0, w20_1, w20_2, w20_3, w20_5, w20_6, w20_9, w20_12, w20_15, w20_16, w20_17, w20_18, w20_22, w20_23, w20_26, w20_29, w20_32, w20_33, w20_34, w20_37, w20_38, w20_41, w20_44, w20_45, w20_46, w20_48, w20_51, w20_54, w20_55, w20_56, w20_59, w20_60, w20_61, w20_62, w20_65, w20_67, w20_68, w20_71, w20_74, w20_77, w20_78, w20_81, w20_82, w20_83, w20_85, w20_86, w20_88, w20_89, w20_90, w20_93, w20_96, w20_99, w20_102, w20_105, w20_106, tc63, tr63_0, tr63_1, tr63_3, tr63_4, tr63_5, tr63_6, ta64, tn64, ta65, tn65, ta66, tn66, ta67, tn67, tc2, tr2_2, tr2_3, tr2_4, tr2_5, tr2_6, tr2_7, tr2_8, tr2_9, tr2_12, tr2_13, tr2_15, ta3, tn3, ta4, tn4, ta5, tn5, ta6, tn6, ta7, tn7, ta8, tn8, ta9, tn9, ta10, tn10, ta11, tn11, ta12, tn12, ta13, tn13, xLoad_i, xLoad_l, xLoad_r, xInc_s, xBr_t, xBr_f, xNz_s, xGf_s, xPf_s, xPz_s, xLd_2, xLd_7, xLd_10, xLdb_3, xLdb_5, xLdb_9, xLdl_4, xLdr_6, xSt_2, xStl_4, xStb_3, xStb_5, xLen_s, xLen_10, xCpy_s, xIv_s, xMx_s, mCont_s, mCont_n, w32_s, w64_s, upC_e, upC_n, upC_u, upC_c, mEn_c, mEn_n, mcw_i, mcw_l, mcw_r, mcat_n, mcat_i, mcat_l, mcat_r, xlong_i, xlong_l, xlong_r, xlong_n, s1_at, s2_at, ↓reduceIte, reduceCtorEq, and_self, true_and, and_true, false_and, and_false, Bool.false_eq_true, ne_eq, not_true_eq_false, not_false_eq_true, or_true, true_or, or_false, false_or, or_self, Int.tmod_eq_emod_of_nonneg, Int.tdiv_eq_ediv_of_nonneg, Classical.not_not, xSw, rOK, b2i_ok, b2i_0, b2i_1, Nat.reduceAdd, Nat.reduceSub, Nat.reduceMul, Nat.reduceEqDiff, Nat.reduceLeDiff, Nat.reduceLT, Int.reduceAdd, Int.reduceSub, Int.reduceMul, Int.reduceNeg, Int.reduceEq, Int.reduceNe, Int.reduceLT, Int.reduceLE, Int.reduceToNat, Int.reduceTDiv, Int.reduceTMod, b2i_em, g0, g1, g2, g3, g4, f2, s0]
        have hge : cn (fpG ru A nt) (6 * p + q) ≤ cn (fpG ru A nt) (6 * (p + 1)) := cn_le (by omega)
        have e6 : min (cn (fpG ru A nt) (6 * (p + 1))) en = en := by omega
        refine ih _ _ ⟨hf, fun c hc h2 h3 => ?_, ?_, ?_, ?_, ?_⟩
        any_goals (simp [s1_at, s2_at, mEn_c, mcw_r, mcw_i, mcw_l, xlong_i, xlong_r, xlong_l, xlong_n, g0, g1, g2, g3, g4, e6]; done)
        rcases (show 6 * p + q ≤ c ∨ c < 6 * p + q by omega) with z | z
        · have := cn_le (G := fpG ru A nt) z
          omega
        · exact h1 c z h2 h3
    · obtain ⟨hpq, hf, h1, g0, g1, g2, g3, g4⟩ := hI
      have f2 : M' 2 = M 2 := hf 2 (by decide)
      have hs2 : cn (fpG ru A nt) (6 * (p + 1)) = cn (fpG ru A nt) (6 * p + (A 0).toNat) := cn_skip (by omega) (fun c h1 h2 h3 => by have := (fpG_F h3).2; omega)
      rw [w20_20]
      simp (disch := first | decide | omega) only [b20, w20_0, w20_1, w20_2, w20_3, w20_5, w20_6, w20_9, w20_12, w20_15, w20_16, w20_17, w20_18, w20_22, w20_23, w20_26, w20_29, w20_32, w20_33, w20_34, w20_37, w20_38, w20_41, w20_44, w20_45, w20_46, w20_48, w20_51, w20_54, w20_55, w20_56, w20_59, w20_60, w20_61, w20_62, w20_65, w20_67, w20_68, w20_71, w20_74, w20_77, w20_78, w20_81, w20_82, w20_83, w20_85, w20_86, w20_88, w20_89, w20_90, w20_93, w20_96, w20_99, w20_102, w20_105, w20_106, tc63, tr63_0, tr63_1, tr63_3, tr63_4, tr63_5, tr63_6, ta64, tn64, ta65, tn65, ta66, tn66, ta67, tn67, tc2, tr2_2, tr2_3, tr2_4, tr2_5, tr2_6, tr2_7, tr2_8, tr2_9, tr2_12, tr2_13, tr2_15, ta3, tn3, ta4, tn4, ta5, tn5, ta6, tn6, ta7, tn7, ta8, tn8, ta9, tn9, ta10, tn10, ta11, tn11, ta12, tn12, ta13, tn13, xLoad_i, xLoad_l, xLoad_r, xInc_s, xBr_t, xBr_f, xNz_s, xGf_s, xPf_s, xPz_s, xLd_2, xLd_7, xLd_10, xLdb_3, xLdb_5, xLdb_9, xLdl_4, xLdr_6, xSt_2, xStl_4, xStb_3, xStb_5, xLen_s, xLen_10, xCpy_s, xIv_s, xMx_s, mCont_s, mCont_n, w32_s, w64_s, upC_e, upC_n, upC_u, upC_c, mEn_c, mEn_n, mcw_i, mcw_l, mcw_r, mcat_n, mcat_i, mcat_l, mcat_r, xlong_i, xlong_l, xlong_r, xlong_n, s1_at, s2_at, ↓reduceIte, reduceCtorEq, and_self, true_and, and_true, false_and, and_false, Bool.false_eq_true, ne_eq, not_true_eq_false, not_false_eq_true, or_true, true_or, or_false, false_or, or_self, Int.tmod_eq_emod_of_nonneg, Int.tdiv_eq_ediv_of_nonneg, Classical.not_not, xSw, rOK, b2i_ok, b2i_0, b2i_1, Nat.reduceAdd, Nat.reduceSub, Nat.reduceMul, Nat.reduceEqDiff, Nat.reduceLeDiff, Nat.reduceLT, Int.reduceAdd, Int.reduceSub, Int.reduceMul, Int.reduceNeg, Int.reduceEq, Int.reduceNe, Int.reduceLT, Int.reduceLE, Int.reduceToNat, Int.reduceTDiv, Int.reduceTMod, b2i_em, g0, g1, g2, g3, g4, f2, s0]
      refine ih _ _ ⟨hf, fun c hc h2 h3 => h1 c (by have := fpG_F h2; omega) h2 h3, ?_, ?_, ?_, ?_⟩
      all_goals simp [s1_at, s2_at, mEn_c, mcw_r, mcw_i, mcw_l, xlong_i, xlong_r, xlong_l, xlong_n, g0, g1, g2, g3, g4, hs2]
  · obtain ⟨hf, h1, g0, g1, g2, g3⟩ := hI
    have f2 : M' 2 = M 2 := hf 2 (by decide)
    have hs2 : cn (fpG ru A nt) 36 = cn (fpG ru A nt) (6 * (A 0).toNat) := cn_skip (by omega) (fun c h1 h2 h3 => by have := fpG_F h3; omega)
    rw [w20_4]
    simp (disch := first | decide | omega) only [b20, w20_0, w20_1, w20_2, w20_3, w20_5, w20_6, w20_9, w20_12, w20_15, w20_16, w20_17, w20_18, w20_20, w20_22, w20_23, w20_26, w20_29, w20_32, w20_33, w20_34, w20_37, w20_38, w20_41, w20_44, w20_45, w20_46, w20_48, w20_51, w20_54, w20_55, w20_56, w20_59, w20_60, w20_61, w20_62, w20_65, w20_67, w20_68, w20_71, w20_74, w20_77, w20_78, w20_81, w20_82, w20_83, w20_85, w20_86, w20_88, w20_89, w20_90, w20_93, w20_96, w20_99, w20_102, w20_105, w20_106, tc63, tr63_0, tr63_1, tr63_3, tr63_4, tr63_5, tr63_6, ta64, tn64, ta65, tn65, ta66, tn66, ta67, tn67, tc2, tr2_2, tr2_3, tr2_4, tr2_5, tr2_6, tr2_7, tr2_8, tr2_9, tr2_12, tr2_13, tr2_15, ta3, tn3, ta4, tn4, ta5, tn5, ta6, tn6, ta7, tn7, ta8, tn8, ta9, tn9, ta10, tn10, ta11, tn11, ta12, tn12, ta13, tn13, xLoad_i, xLoad_l, xLoad_r, xInc_s, xBr_t, xBr_f, xNz_s, xGf_s, xPf_s, xPz_s, xLd_2, xLd_7, xLd_10, xLdb_3, xLdb_5, xLdb_9, xLdl_4, xLdr_6, xSt_2, xStl_4, xStb_3, xStb_5, xLen_s, xLen_10, xCpy_s, xIv_s, xMx_s, mCont_s, mCont_n, w32_s, w64_s, upC_e, upC_n, upC_u, upC_c, mEn_c, mEn_n, mcw_i, mcw_l, mcw_r, mcat_n, mcat_i, mcat_l, mcat_r, xlong_i, xlong_l, xlong_r, xlong_n, s1_at, s2_at, ↓reduceIte, reduceCtorEq, and_self, true_and, and_true, false_and, and_false, Bool.false_eq_true, ne_eq, not_true_eq_false, not_false_eq_true, or_true, true_or, or_false, false_or, or_self, Int.tmod_eq_emod_of_nonneg, Int.tdiv_eq_ediv_of_nonneg, Classical.not_not, xSw, rOK, b2i_ok, b2i_0, b2i_1, Nat.reduceAdd, Nat.reduceSub, Nat.reduceMul, Nat.reduceEqDiff, Nat.reduceLeDiff, Nat.reduceLT, Int.reduceAdd, Int.reduceSub, Int.reduceMul, Int.reduceNeg, Int.reduceEq, Int.reduceNe, Int.reduceLT, Int.reduceLE, Int.reduceToNat, Int.reduceTDiv, Int.reduceTMod, b2i_em, g0, g1, g2, g3, f2, s0]
    rw [← hs2]
    exact hK M' hf (fun c hc h2 h3 => h1 c (by have := fpG_F h2; omega) h2 h3)
theorem iOr0 : ∀ x : Nat, x < 64 → iOr 0 (x : Int) = x := by decide +kernel
set_option maxHeartbeats 1000000 in
theorem a_falseBridges {d : Nat} {M : mM} {K : mQ} {A nt : Int → Int} {ru : RU} (h : CX M A ru) (hn : ∀ b : Nat, (b : Int) < A 0 → M 64 b = nt b ∧ 0 ≤ nt b ∧ nt b ≤ 999) (hK : ∀ M', fr (65 :: SC) M M' → K (some (vi (orS (fpG ru A nt) 36))) M') : mCall (d + 6) 21 [vr 63] M K := by
  simp (disch := first | decide | omega) only [b21, w21_0, w21_1, w21_3, w21_6, w21_7, w21_8, w21_9, w21_10, w21_12, w21_13, w21_16, w21_17, w21_18, w21_19, w21_22, w21_23, w21_24, w21_26, w21_27, w21_28, w21_29, w21_30, w21_33, w21_34, w21_35, w21_37, w21_38, w21_39, w21_40, w21_41, w21_42, w21_45, w21_48, w21_49, tc63, tr63_0, tr63_1, tr63_3, tr63_4, tr63_5, tr63_6, ta64, tn64, ta65, tn65, ta66, tn66, ta67, tn67, tc2, tr2_2, tr2_3, tr2_4, tr2_5, tr2_6, tr2_7, tr2_8, tr2_9, tr2_12, tr2_13, tr2_15, ta3, tn3, ta4, tn4, ta5, tn5, ta6, tn6, ta7, tn7, ta8, tn8, ta9, tn9, ta10, tn10, ta11, tn11, ta12, tn12, ta13, tn13, xLoad_i, xLoad_l, xLoad_r, xInc_s, xBr_t, xBr_f, xNz_s, xGf_s, xPf_s, xPz_s, xLd_2, xLd_7, xLd_10, xLdb_3, xLdb_5, xLdb_9, xLdl_4, xLdr_6, xSt_2, xStl_4, xStb_3, xStb_5, xLen_s, xLen_10, xCpy_s, xIv_s, xMx_s, mCont_s, mCont_n, w32_s, w64_s, upC_e, upC_n, upC_u, upC_c, mEn_c, mEn_n, mcw_i, mcw_l, mcw_r, mcat_n, mcat_i, mcat_l, mcat_r, xlong_i, xlong_l, xlong_r, xlong_n, s1_at, s2_at, ↓reduceIte, reduceCtorEq, and_self, true_and, and_true, false_and, and_false, Bool.false_eq_true, ne_eq, not_true_eq_false, not_false_eq_true, or_true, true_or, or_false, false_or, or_self, Int.tmod_eq_emod_of_nonneg, Int.tdiv_eq_ediv_of_nonneg, Classical.not_not, xSw, rOK, b2i_ok, b2i_0, b2i_1, Nat.reduceAdd, Nat.reduceSub, Nat.reduceMul, Nat.reduceEqDiff, Nat.reduceLeDiff, Nat.reduceLT, Int.reduceAdd, Int.reduceSub, Int.reduceMul, Int.reduceNeg, Int.reduceEq, Int.reduceNe, Int.reduceLT, Int.reduceLE, Int.reduceToNat, Int.reduceTDiv, Int.reduceTMod, b2i_em]
  refine a_findFalse (en := 15) h hn (by decide) (fun M1 f1 h1 => ?_)
  have h15 : cn (fpG ru A nt) 36 ≤ 15 := by
    have h2 : cn (fpG ru A nt) 36 ≤ cn gF 36 := cn_mono (fun q _ hq => if_pos (fpG_F hq).1)
    have h3 : cn gF 36 = 15 := by decide +kernel
    omega
  rw [show min (cn (fpG ru A nt) 36) 15 = cn (fpG ru A nt) 36 by omega]
  simp (disch := first | decide | omega) only [b21, w21_0, w21_1, w21_3, w21_6, w21_7, w21_8, w21_9, w21_10, w21_12, w21_13, w21_16, w21_17, w21_18, w21_19, w21_22, w21_23, w21_24, w21_26, w21_27, w21_28, w21_29, w21_30, w21_33, w21_34, w21_35, w21_37, w21_38, w21_39, w21_40, w21_41, w21_42, w21_45, w21_48, w21_49, tc63, tr63_0, tr63_1, tr63_3, tr63_4, tr63_5, tr63_6, ta64, tn64, ta65, tn65, ta66, tn66, ta67, tn67, tc2, tr2_2, tr2_3, tr2_4, tr2_5, tr2_6, tr2_7, tr2_8, tr2_9, tr2_12, tr2_13, tr2_15, ta3, tn3, ta4, tn4, ta5, tn5, ta6, tn6, ta7, tn7, ta8, tn8, ta9, tn9, ta10, tn10, ta11, tn11, ta12, tn12, ta13, tn13, xLoad_i, xLoad_l, xLoad_r, xInc_s, xBr_t, xBr_f, xNz_s, xGf_s, xPf_s, xPz_s, xLd_2, xLd_7, xLd_10, xLdb_3, xLdb_5, xLdb_9, xLdl_4, xLdr_6, xSt_2, xStl_4, xStb_3, xStb_5, xLen_s, xLen_10, xCpy_s, xIv_s, xMx_s, mCont_s, mCont_n, w32_s, w64_s, upC_e, upC_n, upC_u, upC_c, mEn_c, mEn_n, mcw_i, mcw_l, mcw_r, mcat_n, mcat_i, mcat_l, mcat_r, xlong_i, xlong_l, xlong_r, xlong_n, s1_at, s2_at, ↓reduceIte, reduceCtorEq, and_self, true_and, and_true, false_and, and_false, Bool.false_eq_true, ne_eq, not_true_eq_false, not_false_eq_true, or_true, true_or, or_false, false_or, or_self, Int.tmod_eq_emod_of_nonneg, Int.tdiv_eq_ediv_of_nonneg, Classical.not_not, xSw, rOK, b2i_ok, b2i_0, b2i_1, Nat.reduceAdd, Nat.reduceSub, Nat.reduceMul, Nat.reduceEqDiff, Nat.reduceLeDiff, Nat.reduceLT, Int.reduceAdd, Int.reduceSub, Int.reduceMul, Int.reduceNeg, Int.reduceEq, Int.reduceNe, Int.reduceLT, Int.reduceLE, Int.reduceToNat, Int.reduceTDiv, Int.reduceTMod, b2i_em]
  refine loopL (P := fun k lv M' => M' = M1 ∧ lv 0 = some (vr 63) ∧ lv 1 = some (vi (cn (fpG ru A nt) 36 : Nat)) ∧ (∃ c, c ≤ 36 ∧ cn (fpG ru A nt) c = k ∧ lv 2 = some (vi (orS (fpG ru A nt) c))) ∧ lv 3 = some (vi (k : Nat))) (G := fun lv M' => rn (d + 5) 21 K 11 lv [] M') (cn (fpG ru A nt) 36) 0 (Nat.zero_le _) _ _ ⟨rfl, ?_, ?_, ⟨0, by decide, rfl, ?_⟩, ?_⟩ (fun k hk ih lv M' hI => ?_) (fun lv M' hI => ?_)
  any_goals (simp [s1_at, s2_at, mEn_c, mcw_r, mcw_i, mcw_l, xlong_i, xlong_r, xlong_l, xlong_n, orS]; done)
  · obtain ⟨rfl, g0, g1, ⟨c, hc, hck, g2⟩, g3⟩ := hI
    obtain ⟨e, he, hG, hek⟩ := cn_ex hk
    have hv := h1 e he hG (by omega)
    rw [hek] at hv
    have hor : orS (fpG ru A nt) c = orS (fpG ru A nt) e := by
      rcases Nat.le_total c e with z | z
      · refine (orS_skip z (fun q q1 q2 q3 => ?_)).symm
        have a1 := cn_le (G := fpG ru A nt) q1
        have a2 := cn_lt q2 q3
        omega
      · refine orS_skip z (fun q q1 q2 q3 => ?_)
        have a1 := cn_le (G := fpG ru A nt) q1
        have a2 := cn_lt q2 q3
        omega
    have b0 := orS_64 (G := fpG ru A nt) (show e ≤ 36 by omega)
    have b1 := p2_6 (e / 6) (by omega)
    have b2 := p2_6 (e % 6) (by omega)
    have hos : orS (fpG ru A nt) (e + 1) = iOr (orS (fpG ru A nt) e) (iOr (2 ^ (e / 6)) (2 ^ (e % 6))) := by
      rw [orS, if_pos hG, iOr_assoc b0 (by omega) (by omega)]
    have sh1 := shl1c (k := e / 6) (by omega)
    have sh2 := shl1c (k := e % 6) (by omega)
    have e6 : (e : Int) / 6 = ((e / 6 : Nat) : Int) := by omega
    have e7 : (e : Int) % 6 = ((e % 6 : Nat) : Int) := by omega
    rw [hor] at g2
    rw [w21_11]
    simp (disch := first | decide | omega) only [b21, w21_0, w21_1, w21_3, w21_6, w21_7, w21_8, w21_9, w21_10, w21_12, w21_13, w21_16, w21_17, w21_18, w21_19, w21_22, w21_23, w21_24, w21_26, w21_27, w21_28, w21_29, w21_30, w21_33, w21_34, w21_35, w21_37, w21_38, w21_39, w21_40, w21_41, w21_42, w21_45, w21_48, w21_49, tc63, tr63_0, tr63_1, tr63_3, tr63_4, tr63_5, tr63_6, ta64, tn64, ta65, tn65, ta66, tn66, ta67, tn67, tc2, tr2_2, tr2_3, tr2_4, tr2_5, tr2_6, tr2_7, tr2_8, tr2_9, tr2_12, tr2_13, tr2_15, ta3, tn3, ta4, tn4, ta5, tn5, ta6, tn6, ta7, tn7, ta8, tn8, ta9, tn9, ta10, tn10, ta11, tn11, ta12, tn12, ta13, tn13, xLoad_i, xLoad_l, xLoad_r, xInc_s, xBr_t, xBr_f, xNz_s, xGf_s, xPf_s, xPz_s, xLd_2, xLd_7, xLd_10, xLdb_3, xLdb_5, xLdb_9, xLdl_4, xLdr_6, xSt_2, xStl_4, xStb_3, xStb_5, xLen_s, xLen_10, xCpy_s, xIv_s, xMx_s, mCont_s, mCont_n, w32_s, w64_s, upC_e, upC_n, upC_u, upC_c, mEn_c, mEn_n, mcw_i, mcw_l, mcw_r, mcat_n, mcat_i, mcat_l, mcat_r, xlong_i, xlong_l, xlong_r, xlong_n, s1_at, s2_at, ↓reduceIte, reduceCtorEq, and_self, true_and, and_true, false_and, and_false, Bool.false_eq_true, ne_eq, not_true_eq_false, not_false_eq_true, or_true, true_or, or_false, false_or, or_self, Int.tmod_eq_emod_of_nonneg, Int.tdiv_eq_ediv_of_nonneg, Classical.not_not, xSw, rOK, b2i_ok, b2i_0, b2i_1, Nat.reduceAdd, Nat.reduceSub, Nat.reduceMul, Nat.reduceEqDiff, Nat.reduceLeDiff, Nat.reduceLT, Int.reduceAdd, Int.reduceSub, Int.reduceMul, Int.reduceNeg, Int.reduceEq, Int.reduceNe, Int.reduceLT, Int.reduceLE, Int.reduceToNat, Int.reduceTDiv, Int.reduceTMod, b2i_em, g0, g1, g2, g3, hv, e6, e7, sh1, sh2]
    refine ih _ _ ⟨rfl, ?_, ?_, ⟨e + 1, by omega, by rw [cn, if_pos hG, hek], ?_⟩, ?_⟩
    all_goals simp [s1_at, s2_at, mEn_c, mcw_r, mcw_i, mcw_l, xlong_i, xlong_r, xlong_l, xlong_n, g0, g1, g2, g3, hos]
  · obtain ⟨rfl, g0, g1, ⟨c, hc, hck, g2⟩, g3⟩ := hI
    have hor : orS (fpG ru A nt) 36 = orS (fpG ru A nt) c := by
      refine orS_skip hc (fun q q1 q2 q3 => ?_)
      have a1 := cn_le (G := fpG ru A nt) q1
      have a2 := cn_lt q2 q3
      omega
    rw [w21_11]
    simp (disch := first | decide | omega) only [b21, w21_0, w21_1, w21_3, w21_6, w21_7, w21_8, w21_9, w21_10, w21_12, w21_13, w21_16, w21_17, w21_18, w21_19, w21_22, w21_23, w21_24, w21_26, w21_27, w21_28, w21_29, w21_30, w21_33, w21_34, w21_35, w21_37, w21_38, w21_39, w21_40, w21_41, w21_42, w21_45, w21_48, w21_49, tc63, tr63_0, tr63_1, tr63_3, tr63_4, tr63_5, tr63_6, ta64, tn64, ta65, tn65, ta66, tn66, ta67, tn67, tc2, tr2_2, tr2_3, tr2_4, tr2_5, tr2_6, tr2_7, tr2_8, tr2_9, tr2_12, tr2_13, tr2_15, ta3, tn3, ta4, tn4, ta5, tn5, ta6, tn6, ta7, tn7, ta8, tn8, ta9, tn9, ta10, tn10, ta11, tn11, ta12, tn12, ta13, tn13, xLoad_i, xLoad_l, xLoad_r, xInc_s, xBr_t, xBr_f, xNz_s, xGf_s, xPf_s, xPz_s, xLd_2, xLd_7, xLd_10, xLdb_3, xLdb_5, xLdb_9, xLdl_4, xLdr_6, xSt_2, xStl_4, xStb_3, xStb_5, xLen_s, xLen_10, xCpy_s, xIv_s, xMx_s, mCont_s, mCont_n, w32_s, w64_s, upC_e, upC_n, upC_u, upC_c, mEn_c, mEn_n, mcw_i, mcw_l, mcw_r, mcat_n, mcat_i, mcat_l, mcat_r, xlong_i, xlong_l, xlong_r, xlong_n, s1_at, s2_at, ↓reduceIte, reduceCtorEq, and_self, true_and, and_true, false_and, and_false, Bool.false_eq_true, ne_eq, not_true_eq_false, not_false_eq_true, or_true, true_or, or_false, false_or, or_self, Int.tmod_eq_emod_of_nonneg, Int.tdiv_eq_ediv_of_nonneg, Classical.not_not, xSw, rOK, b2i_ok, b2i_0, b2i_1, Nat.reduceAdd, Nat.reduceSub, Nat.reduceMul, Nat.reduceEqDiff, Nat.reduceLeDiff, Nat.reduceLT, Int.reduceAdd, Int.reduceSub, Int.reduceMul, Int.reduceNeg, Int.reduceEq, Int.reduceNe, Int.reduceLT, Int.reduceLE, Int.reduceToNat, Int.reduceTDiv, Int.reduceTMod, b2i_em, g0, g1, g2, g3]
    rw [← hor]
    exact hK M' f1
