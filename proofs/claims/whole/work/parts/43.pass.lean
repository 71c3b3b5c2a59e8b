/-! an hour, as the class lets it pass -/
theorem clR_at {rw0 : Int → Int} {b : Int} : ∀ {k : Nat}, k ≤ 12 → ∀ i : Int, clR rw0 b k i = if 24 ≤ i ∧ i < 24 + k ∧ rw0 i = b then 7 else if 36 ≤ i ∧ i < 36 + k ∧ rw0 (i - 12) = b then 0 else rw0 i
  | 0, _, i => by
    rw [if_neg (by omega), if_neg (by omega)]
    rfl
  | k + 1, hk, i => by
    have ih := clR_at (rw0 := rw0) (b := b) (k := k) (by omega)
    have e : clR rw0 b k (24 + k) = rw0 (24 + k) := by rw [ih, if_neg (by omega), if_neg (by omega)]
    have e3 : clR rw0 b k (36 + k) = rw0 (36 + k) := by rw [ih, if_neg (by omega), if_neg (by omega)]
    have hs : clR rw0 b (k + 1) = if clR rw0 b k (24 + k) = b then mU (mU (clR rw0 b k) (24 + k) 7) (36 + k) 0 else clR rw0 b k := rfl
    rw [hs, e]
    by_cases e1 : i = 36 + k
    · subst e1
      by_cases g : rw0 (24 + k) = b
      · rw [if_pos g, mU_e, if_neg (by omega), if_pos ⟨by omega, by omega, by rw [show (36 : Int) + k - 12 = 24 + k by omega]; exact g⟩]
      · rw [if_neg g, e3, if_neg (by omega), if_neg (fun w => g (by have := w.2.2; rw [show (36 : Int) + k - 12 = 24 + k by omega] at this; exact this))]
    · by_cases e2 : i = 24 + k
      · subst e2
        by_cases g : rw0 (24 + k) = b
        · rw [if_pos g, mU_n e1, mU_e, if_pos ⟨by omega, by omega, g⟩]
        · rw [if_neg g, e, if_neg (fun w => g w.2.2), if_neg (by omega)]
      · have hx : (if rw0 (24 + k) = b then mU (mU (clR rw0 b k) (24 + k) 7) (36 + k) 0 else clR rw0 b k) i = clR rw0 b k i := by
          split
          · rw [mU_n e1, mU_n e2]
          · rfl
        rw [hx, ih]
        exact ite_c (fun w => by omega) (fun w => by omega) rfl (ite_c (fun w => by omega) (fun w => by omega) rfl rfl)
theorem clR_o {rw0 : Int → Int} {b : Int} {k : Nat} (hk : k ≤ 12) {i : Int} (h : i < 24 ∨ 48 ≤ i) : clR rw0 b k i = rw0 i := by
  rw [clR_at hk, if_neg (by omega), if_neg (by omega)]
theorem clR_wh {rw0 : Int → Int} {b : Int} {k : Nat} (hk : k ≤ 12) {l : Nat} (h : l < 12) : clR rw0 b k (24 + l) = if l < k ∧ rw0 (24 + l) = b then 7 else rw0 (24 + l) := by
  rw [clR_at hk]
  have e : (if 36 ≤ 24 + (l : Int) ∧ 24 + (l : Int) < 36 + (k : Int) ∧ rw0 (24 + (l : Int) - 12) = b then 0 else rw0 (24 + l)) = rw0 (24 + l) := if_neg (by omega)
  rw [e]
  exact ite_c (fun w => ⟨by omega, w.2.2⟩) (fun w => ⟨by omega, by omega, w.2⟩) rfl rfl
theorem clR_si {rw0 : Int → Int} {b : Int} {k : Nat} (hk : k ≤ 12) {l : Nat} (h : l < 12) : clR rw0 b k (36 + l) = if l < k ∧ rw0 (24 + l) = b then 0 else rw0 (36 + l) := by
  rw [clR_at hk, if_neg (show ¬ (24 ≤ 36 + (l : Int) ∧ 36 + (l : Int) < 24 + (k : Int) ∧ rw0 (36 + (l : Int)) = b) by omega), show (36 : Int) + l - 12 = 24 + l by omega]
  exact ite_c (fun w => ⟨by omega, w.2.2⟩) (fun w => ⟨by omega, by omega, w.2⟩) rfl rfl
theorem wfR_lo {M : mM} {b i : Int} (hi : i < 51) (hf : 0 ≤ M 9 51 ∧ M 9 51 ≤ 40) : wfR M b i = M 9 i := by
  unfold wfR
  split
  · rw [mU_n (by omega), mU_n (by omega), mCpy_o (by omega)]
  · rw [mU_n (by omega), mU_n (by omega)]
theorem wfR_51 {M : mM} {b : Int} (hf : 0 ≤ M 9 51 ∧ M 9 51 ≤ 40) : 0 ≤ wfR M b 51 ∧ wfR M b 51 ≤ 40 := by
  unfold wfR
  split
  · rw [mU_e]; omega
  · rw [mU_e]; omega
/-- the row behind a fall -/
def clB (M : mM) (b : Int) : Int → Int := clR (mU (mU (wfR M b) (12 + b) 1) (18 + b) 0) b (M 2 1).toNat
theorem c_collapse {d : Nat} {M : mM} {K : mQ} {b : Nat} (hb : b < 6) (hL : 0 ≤ M 2 1 ∧ M 2 1 ≤ 12) (h0 : 0 ≤ M 9 (18 + b) ∧ M 9 (18 + b) ≤ 60) (hw : ∀ k : Nat, k < (M 2 1).toNat → 0 ≤ M 6 k ∧ M 6 k ≤ 60) (hf : 0 ≤ M 9 51 ∧ M 9 51 ≤ 40) (hh : 0 ≤ M 9 49 ∧ M 9 49 ≤ 2000) (hr : 0 ≤ M 9 (6 + b) ∧ M 9 (6 + b) ≤ 200) : mCall (d + 3) 112 [vr 2, vi b] M K = K none (upC M 9 (clB M b)) := by
  unfold clB
  simp (disch := first | decide | omega) only [b112, w112_0, w112_1, w112_2, w112_5, w112_6, w112_9, w112_11, w112_12, w112_13, w112_14, w112_15, w112_16, w112_19, w112_21, w112_22, w112_23, w112_24, w112_25, w112_26, w112_28, w112_29, w112_32, w112_35, w112_36, w112_39, w112_41, w112_42, w112_43, w112_44, w112_45, w112_48, w112_49, w112_50, w112_52, w112_55, w112_58, w112_61, tc2, tr2_2, tr2_3, tr2_4, tr2_5, tr2_6, tr2_7, tr2_8, tr2_9, tr2_12, tr2_13, tr2_15, ta3, tn3, ta4, tn4, ta5, tn5, ta6, tn6, ta7, tn7, ta8, tn8, ta9, tn9, ta10, tn10, ta11, tn11, ta12, tn12, ta13, tn13, xLoad_i, xLoad_l, xLoad_r, xInc_s, xBr_t, xBr_f, xNz_s, xGf_s, xPf_s, xPz_s, xLd_2, xLd_7, xLd_10, xLdb_3, xLdb_5, xLdb_9, xLdl_4, xLdr_6, xSt_2, xStl_4, xStb_3, xStb_5, xLen_s, xLen_10, xCpy_s, xIv_s, xMx_s, mCont_s, mCont_n, w32_s, w64_s, upC_e, upC_n, upC_u, upC_c, mEn_c, mEn_n, mcw_i, mcw_l, mcw_r, mcat_n, mcat_i, mcat_l, mcat_r, xlong_i, xlong_l, xlong_r, xlong_n, s1_at, s2_at, ↓reduceIte, reduceCtorEq, and_self, true_and, and_true, false_and, and_false, Bool.false_eq_true, ne_eq, not_true_eq_false, not_false_eq_true, or_true, true_or, or_false, false_or, or_self, Int.tmod_eq_emod_of_nonneg, Int.tdiv_eq_ediv_of_nonneg, Classical.not_not, xSw, rOK, b2i_ok, b2i_0, b2i_1, Nat.reduceAdd, Nat.reduceSub, Nat.reduceMul, Nat.reduceEqDiff, Nat.reduceLeDiff, Nat.reduceLT, Int.reduceAdd, Int.reduceSub, Int.reduceMul, Int.reduceNeg, Int.reduceEq, Int.reduceNe, Int.reduceLT, Int.reduceLE, Int.reduceToNat, Int.reduceTDiv, Int.reduceTMod, b2i_em]
  rw [c_writeFall (by omega) hL h0 hw hf hh hr]
  simp (disch := first | decide | omega) only [b112, w112_0, w112_1, w112_2, w112_5, w112_6, w112_9, w112_11, w112_12, w112_13, w112_14, w112_15, w112_16, w112_19, w112_21, w112_22, w112_23, w112_24, w112_25, w112_26, w112_28, w112_29, w112_32, w112_35, w112_36, w112_39, w112_41, w112_42, w112_43, w112_44, w112_45, w112_48, w112_49, w112_50, w112_52, w112_55, w112_58, w112_61, tc2, tr2_2, tr2_3, tr2_4, tr2_5, tr2_6, tr2_7, tr2_8, tr2_9, tr2_12, tr2_13, tr2_15, ta3, tn3, ta4, tn4, ta5, tn5, ta6, tn6, ta7, tn7, ta8, tn8, ta9, tn9, ta10, tn10, ta11, tn11, ta12, tn12, ta13, tn13, xLoad_i, xLoad_l, xLoad_r, xInc_s, xBr_t, xBr_f, xNz_s, xGf_s, xPf_s, xPz_s, xLd_2, xLd_7, xLd_10, xLdb_3, xLdb_5, xLdb_9, xLdl_4, xLdr_6, xSt_2, xStl_4, xStb_3, xStb_5, xLen_s, xLen_10, xCpy_s, xIv_s, xMx_s, mCont_s, mCont_n, w32_s, w64_s, upC_e, upC_n, upC_u, upC_c, mEn_c, mEn_n, mcw_i, mcw_l, mcw_r, mcat_n, mcat_i, mcat_l, mcat_r, xlong_i, xlong_l, xlong_r, xlong_n, s1_at, s2_at, ↓reduceIte, reduceCtorEq, and_self, true_and, and_true, false_and, and_false, Bool.false_eq_true, ne_eq, not_true_eq_false, not_false_eq_true, or_true, true_or, or_false, false_or, or_self, Int.tmod_eq_emod_of_nonneg, Int.tdiv_eq_ediv_of_nonneg, Classical.not_not, xSw, rOK, b2i_ok, b2i_0, b2i_1, Nat.reduceAdd, Nat.reduceSub, Nat.reduceMul, Nat.reduceEqDiff, Nat.reduceLeDiff, Nat.reduceLT, Int.reduceAdd, Int.reduceSub, Int.reduceMul, Int.reduceNeg, Int.reduceEq, Int.reduceNe, Int.reduceLT, Int.reduceLE, Int.reduceToNat, Int.reduceTDiv, Int.reduceTMod, b2i_em]
  have hgen : ∀ M1 : mM, M1 2 1 = M 2 1 → ∀ lv, lv 0 = some (vr 2) → lv 1 = some (vi b) → lv 2 = some (vi 0) → rn (d + 2) 112 K 27 lv [] M1 = K none (upC M1 9 (clR (M1 9) b (M1 2 1).toNat)) := by
    intro M1 e1 lv g0 g1 g2
    have := l_collapse (d := d + 1) (M := M1) (K := K) (b := b) (by omega) (M1 2 1).toNat 0 lv rfl g0 g1 g2
    rw [← this]
    congr 1
    show M1 = upC M1 9 (M1 9)
    rw [upC_s]
  rw [hgen]
  all_goals first | (simp [s1_at, s2_at, mEn_c, mcw_r, mcw_i, mcw_l, xlong_i, xlong_r, xlong_l, xlong_n]; done) | (simp (disch := first | decide | omega) only [upC_e, upC_n, mU_e, mU_n, upC_u]; done) | skip
/-- a fall's number -/
def pkA (A : Int → Int) (i : Int) : Int := ((A (132 + 4 * i) * 1000 + A (133 + 4 * i)) * 100 + A (134 + 4 * i)) * 1000 + A (135 + 4 * i)
def RF (r A : Int → Int) : Prop := r 51 = A 131 ∧ ∀ i : Nat, (i : Int) < A 131 → r (52 + i) = pkA A i
def FW (A : Int → Int) : Prop := (0 ≤ A 131 ∧ A 131 ≤ 40) ∧ ∀ i : Nat, (i : Int) < A 131 → (0 ≤ A (132 + 4 * i) ∧ A (132 + 4 * i) ≤ 5) ∧ (0 ≤ A (133 + 4 * i) ∧ A (133 + 4 * i) ≤ 999) ∧ (0 ≤ A (134 + 4 * i) ∧ A (134 + 4 * i) ≤ 99) ∧ (0 ≤ A (135 + 4 * i) ∧ A (135 + 4 * i) ≤ 999)
def wfG (r : Int → Int) (v : Int) : Int → Int := if r 51 = 40 then mU (mU (mCpy r r 53 52 39) 91 v) 51 40 else mU (mU r (52 + r 51) v) 51 (r 51 + 1)
theorem fpush_at {A : Int → Int} {b h w br : Int} (hR : 0 ≤ A 131 ∧ A 131 ≤ 40) : fpush A b h w br 131 = (if A 131 = 40 then 40 else A 131 + 1) ∧ (∀ j : Int, 0 ≤ j → j < fp1 A 131 → ∀ x : Int, 0 ≤ x → x < 4 → fpush A b h w br (132 + 4 * j + x) = if A 131 = 40 then A (132 + 4 * (j + 1) + x) else A (132 + 4 * j + x)) ∧ fpush A b h w br (132 + 4 * fp1 A 131) = b ∧ fpush A b h w br (133 + 4 * fp1 A 131) = h ∧ fpush A b h w br (134 + 4 * fp1 A 131) = w ∧ fpush A b h w br (135 + 4 * fp1 A 131) = br := by
  have hp := fp1_R hR
  have hp1 : fp1 A 131 = if A 131 = 40 then 39 else A 131 := by
    unfold fp1
    split
    · rw [mU_e]
    · rfl
  refine ⟨?_, fun j j0 j1 x x0 x1 => ?_, ?_, ?_, ?_, ?_⟩
  · unfold fpush
    rw [mU_e, hp1]
    split <;> omega
  · unfold fpush
    rw [mU_n (by omega), mU_n (by omega), mU_n (by omega), mU_n (by omega), mU_n (by omega)]
    by_cases e : A 131 = 40
    · rw [if_pos e] at hp1 ⊢
      unfold fp1
      rw [if_pos e, mU_n (by omega)]
      unfold shF
      rw [if_pos (by omega)]
      congr 1
      omega
    · rw [if_neg e]
      unfold fp1
      rw [if_neg e]
  · unfold fpush
    rw [mU_n (by omega), mU_n (by omega), mU_n (by omega), mU_n (by omega), mU_e]
  · unfold fpush
    rw [mU_n (by omega), mU_n (by omega), mU_n (by omega), show (133 : Int) + 4 * fp1 A 131 = 132 + 4 * fp1 A 131 + 1 by omega, mU_e]
  · unfold fpush
    rw [mU_n (by omega), mU_n (by omega), show (134 : Int) + 4 * fp1 A 131 = 132 + 4 * fp1 A 131 + 2 by omega, mU_e]
  · unfold fpush
    rw [mU_n (by omega), show (135 : Int) + 4 * fp1 A 131 = 132 + 4 * fp1 A 131 + 3 by omega, mU_e]
theorem fp1_v {A : Int → Int} : fp1 A 131 = if A 131 = 40 then 39 else A 131 := by
  unfold fp1
  split
  · rw [mU_e]
  · rfl
theorem fpush_x {A : Int → Int} {b h w br : Int} (hR : 0 ≤ A 131 ∧ A 131 ≤ 40) {j : Int} (j0 : 0 ≤ j) (j1 : j < fp1 A 131) : fpush A b h w br (132 + 4 * j) = A (132 + 4 * (if A 131 = 40 then j + 1 else j)) ∧ fpush A b h w br (133 + 4 * j) = A (133 + 4 * (if A 131 = 40 then j + 1 else j)) ∧ fpush A b h w br (134 + 4 * j) = A (134 + 4 * (if A 131 = 40 then j + 1 else j)) ∧ fpush A b h w br (135 + 4 * j) = A (135 + 4 * (if A 131 = 40 then j + 1 else j)) := by
  have h1 := (fpush_at (b := b) (h := h) (w := w) (br := br) hR).2.1 j j0 j1
  have a0 := h1 0 (by omega) (by omega)
  have a1 := h1 1 (by omega) (by omega)
  have a2 := h1 2 (by omega) (by omega)
  have a3 := h1 3 (by omega) (by omega)
  rw [show (132 : Int) + 4 * j + 0 = 132 + 4 * j by omega, show (132 : Int) + 4 * (j + 1) + 0 = 132 + 4 * (j + 1) by omega] at a0
  rw [show (132 : Int) + 4 * j + 1 = 133 + 4 * j by omega, show (132 : Int) + 4 * (j + 1) + 1 = 133 + 4 * (j + 1) by omega] at a1
  rw [show (132 : Int) + 4 * j + 2 = 134 + 4 * j by omega, show (132 : Int) + 4 * (j + 1) + 2 = 134 + 4 * (j + 1) by omega] at a2
  rw [show (132 : Int) + 4 * j + 3 = 135 + 4 * j by omega, show (132 : Int) + 4 * (j + 1) + 3 = 135 + 4 * (j + 1) by omega] at a3
  by_cases e : A 131 = 40
  · rw [if_pos e] at *
    exact ⟨a0, a1, a2, a3⟩
  · rw [if_neg e] at *
    exact ⟨a0, a1, a2, a3⟩
theorem RF_push {r A : Int → Int} {b h w br : Int} (hF : RF r A) (hR : 0 ≤ A 131 ∧ A 131 ≤ 40) : RF (wfG r (((b * 1000 + h) * 100 + w) * 1000 + br)) (fpush A b h w br) := by
  obtain ⟨p1, p2, p3, p4, p5, p6⟩ := fpush_at (b := b) (h := h) (w := w) (br := br) hR
  have hv := fp1_v (A := A)
  unfold wfG
  refine ⟨?_, fun i hi => ?_⟩
  · rw [p1, hF.1]
    by_cases e : A 131 = 40
    · rw [if_pos e, if_pos e, mU_e]
    · rw [if_neg e, if_neg e, mU_e]
  · rw [p1] at hi
    rcases (show (i : Int) = fp1 A 131 ∨ (i : Int) < fp1 A 131 by rw [hv]; split at hi <;> split <;> omega) with g | g
    · have e2 : pkA (fpush A b h w br) i = ((b * 1000 + h) * 100 + w) * 1000 + br := by unfold pkA; rw [g, p3, p4, p5, p6]
      rw [e2, hF.1]
      by_cases e : A 131 = 40
      · rw [if_pos e] at hv ⊢
        rw [mU_n (by omega), show (52 : Int) + i = 91 by omega, mU_e]
      · rw [if_neg e] at hv ⊢
        rw [mU_n (by omega), show (52 : Int) + i = 52 + A 131 by omega, mU_e]
    · obtain ⟨x0, x1, x2, x3⟩ := fpush_x (b := b) (h := h) (w := w) (br := br) hR (show (0 : Int) ≤ i by omega) g
      unfold pkA
      rw [x0, x1, x2, x3, hF.1]
      by_cases e : A 131 = 40
      · rw [if_pos e] at hv
        simp only [if_pos e]
        rw [mU_n (by omega), mU_n (by omega)]
        unfold mCpy
        rw [if_pos (by omega), show (53 : Int) + (52 + i - 52) = 52 + ((i + 1 : Nat) : Int) by omega, hF.2 (i + 1) (by omega)]
        unfold pkA
        rfl
      · rw [if_neg e] at hv
        simp only [if_neg e]
        rw [mU_n (by omega), mU_n (by omega), hF.2 i (by omega)]
        rfl
theorem FW_push {A : Int → Int} {b h w br : Int} (hF : FW A) (hb : 0 ≤ b ∧ b ≤ 5) (hh : 0 ≤ h ∧ h ≤ 999) (hw : 0 ≤ w ∧ w ≤ 99) (hbr : 0 ≤ br ∧ br ≤ 999) : FW (fpush A b h w br) := by
  obtain ⟨p1, p2, p3, p4, p5, p6⟩ := fpush_at (b := b) (h := h) (w := w) (br := br) hF.1
  have hv := fp1_v (A := A)
  have hR := hF.1
  refine ⟨by rw [p1]; split <;> omega, fun i hi => ?_⟩
  rw [p1] at hi
  rcases (show (i : Int) = fp1 A 131 ∨ (i : Int) < fp1 A 131 by rw [hv]; split at hi <;> split <;> omega) with g | g
  · rw [g, p3, p4, p5, p6]
    exact ⟨hb, hh, hw, hbr⟩
  · obtain ⟨x0, x1, x2, x3⟩ := fpush_x (b := b) (h := h) (w := w) (br := br) hR (show (0 : Int) ≤ i by omega) g
    rw [x0, x1, x2, x3]
    by_cases e : A 131 = 40
    · rw [if_pos e] at hv
      simp only [if_pos e]
      have := hF.2 (i + 1) (by omega)
      rw [show ((i + 1 : Nat) : Int) = (i : Int) + 1 by omega] at this
      exact this
    · rw [if_neg e] at hv
      simp only [if_neg e]
      exact hF.2 i (by omega)
theorem faA_FW {ru : RU} {A : Int → Int} (hw : WS A) (hd : WD A) (hF : FW A) (hh : A 81 ≤ 999) : ∀ n : Nat, n ≤ 6 → FW (faA ru A n)
  | 0, _ => hF
  | n + 1, h => by
    have ih := faA_FW (ru := ru) hw hd hF hh n (by omega)
    rw [faA_s]
    split
    · rename_i g
      have b1 := bitA_up (ru := ru) (A := A) (b := n) (by omega) (fsI_bit g)
      have e := hd.2.2.2.1 n (by omega)
      have q := brn_780 hw hd (b := n) (by omega)
      have h0 := hd.2.1
      exact FW_push ih (by omega) (by omega) (by omega) (by omega)
    · exact ih
def mW (len : Int → Int) (nb w s : Int) : Int := if (0 ≤ w ∧ w < nb) ∧ s + 1 = len w then 6 else w
def mS (len : Int → Int) (nb w s : Int) : Int := if 0 ≤ w ∧ w < nb then (if s + 1 = len w then 0 else s + 1) else s
theorem mvR_at {rw0 len : Int → Int} {nb : Int} : ∀ {k : Nat}, k ≤ 12 → ∀ i : Int, mvR rw0 len nb k i = if 24 ≤ i ∧ i < 24 + k then mW len nb (rw0 i) (rw0 (i + 12)) else if 36 ≤ i ∧ i < 36 + k then mS len nb (rw0 (i - 12)) (rw0 i) else rw0 i
  | 0, _, i => by
    rw [if_neg (by omega), if_neg (by omega)]
    rfl
  | k + 1, hk, i => by
    have ih := mvR_at (rw0 := rw0) (len := len) (nb := nb) (k := k) (by omega)
    have e1 : mvR rw0 len nb k (24 + k) = rw0 (24 + k) := by rw [ih, if_neg (by omega), if_neg (by omega)]
    have e2 : mvR rw0 len nb k (36 + k) = rw0 (36 + k) := by rw [ih, if_neg (by omega), if_neg (by omega)]
    have e3 : (24 : Int) + k + 12 = 36 + k := by omega
    have e4 : (36 : Int) + k - 12 = 24 + k := by omega
    have hs : mvR rw0 len nb (k + 1) = mU (mU (mvR rw0 len nb k) (24 + k) (mW len nb (rw0 (24 + k)) (rw0 (36 + k)))) (36 + k) (mS len nb (rw0 (24 + k)) (rw0 (36 + k))) := by
      unfold mW mS
      rw [mvR, e1, e2]
      by_cases g : 0 ≤ rw0 (24 + k) ∧ rw0 (24 + k) < nb
      · rw [if_pos g, if_pos g]
        by_cases g2 : rw0 (36 + k) + 1 = len (rw0 (24 + k))
        · rw [if_pos g2, if_pos g2, if_pos ⟨g, g2⟩, mU_c (show (36 : Int) + k ≠ 24 + k by omega), mU_u]
        · rw [if_neg g2, if_neg g2, if_neg (fun w => g2 w.2), ← e1, mU_s]
      · rw [if_neg g, if_neg g, if_neg (fun w => g w.1), ← e1, mU_s, ← e2, mU_s]
    rw [hs]
    by_cases z1 : i = 36 + k
    · subst z1
      rw [mU_e, if_neg (by omega), if_pos (by omega), e4]
    · rw [mU_n z1]
      by_cases z2 : i = 24 + k
      · subst z2
        rw [mU_e, if_pos (by omega), e3]
      · rw [mU_n z2, ih]
        exact ite_c (fun w => by omega) (fun w => by omega) rfl (ite_c (fun w => by omega) (fun w => by omega) rfl rfl)
theorem mvR_o {rw0 len : Int → Int} {nb : Int} {k : Nat} (hk : k ≤ 12) {i : Int} (h : i < 24 ∨ 48 ≤ i) : mvR rw0 len nb k i = rw0 i := by
  rw [mvR_at hk, if_neg (by omega), if_neg (by omega)]
theorem mvR_wh {rw0 len : Int → Int} {nb : Int} {k : Nat} (hk : k ≤ 12) {l : Nat} (h : l < 12) : mvR rw0 len nb k (24 + l) = if l < k then mW len nb (rw0 (24 + l)) (rw0 (36 + l)) else rw0 (24 + l) := by
  rw [mvR_at hk]
  have e : (if 36 ≤ 24 + (l : Int) ∧ 24 + (l : Int) < 36 + (k : Int) then mS len nb (rw0 (24 + (l : Int) - 12)) (rw0 (24 + l)) else rw0 (24 + l)) = rw0 (24 + l) := if_neg (by omega)
  rw [e, show (24 : Int) + l + 12 = 36 + l by omega]
  exact ite_c (fun w => by omega) (fun w => by omega) rfl rfl
theorem mvR_si {rw0 len : Int → Int} {nb : Int} {k : Nat} (hk : k ≤ 12) {l : Nat} (h : l < 12) : mvR rw0 len nb k (36 + l) = if l < k then mS len nb (rw0 (24 + l)) (rw0 (36 + l)) else rw0 (36 + l) := by
  rw [mvR_at hk, if_neg (show ¬ (24 ≤ 36 + (l : Int) ∧ 36 + (l : Int) < 24 + (k : Int)) by omega), show (36 : Int) + l - 12 = 24 + l by omega]
  exact ite_c (fun w => by omega) (fun w => by omega) rfl rfl
theorem c_moveOn {d : Nat} {M : mM} {K : mQ} (hB : 0 ≤ M 2 0 ∧ M 2 0 ≤ 6) (hL : 0 ≤ M 2 1 ∧ M 2 1 ≤ 12) (hs : ∀ j : Nat, j < 12 → -1000 ≤ M 9 (36 + j) ∧ M 9 (36 + j) ≤ 1000) : mCall (d + 2) 113 [vr 2] M K = K none (upC M 9 (mvR (M 9) (M 4) (M 2 0) (M 2 1).toNat)) := by
  simp (disch := first | decide | omega) only [b113, w113_0, w113_1, w113_3, w113_4, w113_7, w113_10, w113_11, w113_14, w113_16, w113_17, w113_18, w113_19, w113_20, w113_21, w113_22, w113_25, w113_28, w113_31, w113_32, w113_35, w113_37, w113_38, w113_39, w113_40, w113_41, w113_42, w113_43, w113_44, w113_45, w113_48, w113_50, w113_51, w113_52, w113_53, w113_54, w113_57, w113_58, w113_59, w113_62, w113_63, w113_64, w113_66, w113_69, w113_72, w113_75, tc2, tr2_2, tr2_3, tr2_4, tr2_5, tr2_6, tr2_7, tr2_8, tr2_9, tr2_12, tr2_13, tr2_15, ta3, tn3, ta4, tn4, ta5, tn5, ta6, tn6, ta7, tn7, ta8, tn8, ta9, tn9, ta10, tn10, ta11, tn11, ta12, tn12, ta13, tn13, xLoad_i, xLoad_l, xLoad_r, xInc_s, xBr_t, xBr_f, xNz_s, xGf_s, xPf_s, xPz_s, xLd_2, xLd_7, xLd_10, xLdb_3, xLdb_5, xLdb_9, xLdl_4, xLdr_6, xSt_2, xStl_4, xStb_3, xStb_5, xLen_s, xLen_10, xCpy_s, xIv_s, xMx_s, mCont_s, mCont_n, w32_s, w64_s, upC_e, upC_n, upC_u, upC_c, mEn_c, mEn_n, mcw_i, mcw_l, mcw_r, mcat_n, mcat_i, mcat_l, mcat_r, xlong_i, xlong_l, xlong_r, xlong_n, s1_at, s2_at, ↓reduceIte, reduceCtorEq, and_self, true_and, and_true, false_and, and_false, Bool.false_eq_true, ne_eq, not_true_eq_false, not_false_eq_true, or_true, true_or, or_false, false_or, or_self, Int.tmod_eq_emod_of_nonneg, Int.tdiv_eq_ediv_of_nonneg, Classical.not_not, xSw, rOK, b2i_ok, b2i_0, b2i_1, Nat.reduceAdd, Nat.reduceSub, Nat.reduceMul, Nat.reduceEqDiff, Nat.reduceLeDiff, Nat.reduceLT, Int.reduceAdd, Int.reduceSub, Int.reduceMul, Int.reduceNeg, Int.reduceEq, Int.reduceNe, Int.reduceLT, Int.reduceLE, Int.reduceToNat, Int.reduceTDiv, Int.reduceTMod, b2i_em]
  have := l_moveOn (d := d) (M := M) (K := K) hB hL (fun k hk j hj => by
    have q := hs j hj
    rw [mvR_at hk]
    unfold mW mS
    rw [if_neg (by omega)]
    split
    · rw [show (36 : Int) + j - 12 = 24 + j by omega]
      split
      · split <;> omega
      · omega
    · omega) (M 2 1).toNat 0 (s1 (mEn 0 [vr 2]) 1 (vi 0)) rfl
  rw [← this]
  · congr 1
    show M = upC M 9 (M 9)
    rw [upC_s]
  all_goals simp [s1_at, s2_at, mEn_c, mcw_r, mcw_i, mcw_l, xlong_i, xlong_r, xlong_l, xlong_n]
abbrev SP : List Nat := [9, 64, 65, 66, 34, 42, 50, 58]
/-- the row as the hour passes over the bridges -/
def pI (ru : RU) (A : Int → Int) (h0 : Int) (k : Nat) (r : Int → Int) : Prop := (∀ b : Nat, b < 6 → r b = A (83 + b) ∧ r (6 + b) = A (89 + b) + (if b < k then bitA ru A b else 0) ∧ r (12 + b) = (if b < k ∧ fsI ru A b = 1 then 1 else A (95 + b)) ∧ r (18 + b) = (if b < k ∧ fsI ru A b = 1 then 0 else A (101 + b))) ∧ (∀ l : Nat, l < 12 → ((l : Int) < A 1 → r (24 + l) = if (0 ≤ A (107 + l) ∧ A (107 + l) < k) ∧ fsI ru A (A (107 + l)) = 1 then 7 else A (107 + l)) ∧ (A 1 ≤ l → r (24 + l) = -1) ∧ r (36 + l) = if (l : Int) < A 1 ∧ (0 ≤ A (107 + l) ∧ A (107 + l) < k) ∧ fsI ru A (A (107 + l)) = 1 then 0 else A (119 + l)) ∧ r 48 = A 80 ∧ r 49 = h0 ∧ r 50 = A 82 ∧ 0 ≤ r 51 ∧ r 51 ≤ 40
theorem pI_0 {ru : RU} {A r : Int → Int} {h0 : Int} (h : RD r A) (hh : r 49 = h0) : pI ru A h0 0 r := by
  refine ⟨fun b hb => ?_, fun l hl => ?_, h.2.2.1, hh, h.2.2.2⟩
  · have := h.1 b hb
    rw [if_neg (by omega), if_neg (by omega), if_neg (by omega)]
    exact ⟨this.1, by omega, this.2.2⟩
  · have := h.2.1 l hl
    rw [if_neg (by omega), if_neg (by omega)]
    exact this
/-- a bridge that stays -/
theorem pI_no {ru : RU} {A r : Int → Int} {h0 : Int} {k : Nat} (h : pI ru A h0 k r) (hk : k < 6) (hn : fsI ru A k ≠ 1) : pI ru A h0 (k + 1) (mU r (6 + k) (A (89 + k) + bitA ru A k)) := by
  refine ⟨fun b hb => ?_, fun l hl => ?_, ?_, ?_, ?_, ?_⟩
  · have q := h.1 b hb
    have e : (b < k + 1 ∧ fsI ru A b = 1) ↔ (b < k ∧ fsI ru A b = 1) := ⟨fun w => ⟨by
      rcases (show b = k ∨ b < k by omega) with rfl | z
      · exact absurd w.2 hn
      · exact z, w.2⟩, fun w => ⟨by omega, w.2⟩⟩
    simp only [e]
    rw [mU_n (by omega), mU_n (show (12 : Int) + b ≠ 6 + k by omega), mU_n (show (18 : Int) + b ≠ 6 + k by omega)]
    refine ⟨q.1, ?_, q.2.2⟩
    by_cases z : b = k
    · subst z
      rw [mU_e, if_pos (by omega)]
    · rw [mU_n (by omega), q.2.1]
      by_cases z2 : b < k
      · rw [if_pos z2, if_pos (by omega)]
      · rw [if_neg z2, if_neg (by omega)]
  · have q := h.2.1 l hl
    have e : ((0 ≤ A (107 + l) ∧ A (107 + l) < ((k + 1 : Nat) : Int)) ∧ fsI ru A (A (107 + l)) = 1) ↔ ((0 ≤ A (107 + l) ∧ A (107 + l) < (k : Int)) ∧ fsI ru A (A (107 + l)) = 1) := ⟨fun w => ⟨⟨w.1.1, by
      rcases (show A (107 + l) = k ∨ A (107 + l) < k by omega) with z | z
      · have w3 := w.2
        rw [z] at w3
        exact absurd w3 hn
      · exact z⟩, w.2⟩, fun w => ⟨by omega, w.2⟩⟩
    simp only [e]
    rw [mU_n (by omega), mU_n (by omega)]
    exact q
  · rw [mU_n (by omega)]; exact h.2.2.1
  · rw [mU_n (by omega)]; exact h.2.2.2.1
  · rw [mU_n (by omega)]; exact h.2.2.2.2.1
  · rw [mU_n (by omega)]; exact h.2.2.2.2.2
/-- a bridge that falls -/
theorem pI_yes {ru : RU} {A r r' : Int → Int} {h0 : Int} {k : Nat} (h : pI ru A h0 k r) (hk : k < 6) (hy : fsI ru A k = 1) (hlo : ∀ i, i < 51 → r' i = mU (mU (mU r (6 + k) (A (89 + k) + bitA ru A k)) (12 + k) 1) (18 + k) 0 i) (h51 : 0 ≤ r' 51 ∧ r' 51 ≤ 40) (hL : 0 ≤ A 1 ∧ A 1 ≤ 12) : pI ru A h0 (k + 1) (clR r' k (A 1).toNat) := by
  have hL2 : (A 1).toNat ≤ 12 := by omega
  refine ⟨fun b hb => ?_, fun l hl => ?_, ?_, ?_, ?_, ?_⟩
  · have q := h.1 b hb
    rw [clR_o hL2 (i := b) (by omega), clR_o hL2 (i := 6 + b) (by omega), clR_o hL2 (i := 12 + b) (by omega), clR_o hL2 (i := 18 + b) (by omega), hlo b (by omega), hlo (6 + b) (by omega), hlo (12 + b) (by omega), hlo (18 + b) (by omega)]
    by_cases z : b = k
    · subst z
      simp (disch := first | decide | omega) only [upC_e, upC_n, mU_e, mU_n]
      rw [if_pos (show b < b + 1 by omega), if_pos (show b < b + 1 ∧ fsI ru A b = 1 from ⟨by omega, hy⟩), if_pos (show b < b + 1 ∧ fsI ru A b = 1 from ⟨by omega, hy⟩)]
      exact ⟨q.1, rfl, rfl, rfl⟩
    · have e : (b < k + 1 ∧ fsI ru A b = 1) ↔ (b < k ∧ fsI ru A b = 1) := ⟨fun w => ⟨by omega, w.2⟩, fun w => ⟨by omega, w.2⟩⟩
      have e2 : (b < k + 1) ↔ (b < k) := by omega
      simp (disch := first | decide | omega) only [upC_e, upC_n, mU_e, mU_n]
      simp only [e, e2]
      exact q
  · have q := h.2.1 l hl
    have v1 : r' (24 + l) = r (24 + l) := by rw [hlo _ (by omega), mU_n (by omega), mU_n (by omega), mU_n (by omega)]
    have v2 : r' (36 + l) = r (36 + l) := by rw [hlo _ (by omega), mU_n (by omega), mU_n (by omega), mU_n (by omega)]
    rw [clR_wh hL2 hl, clR_si hL2 hl, v1, v2]
    have q3 := q.2.2
    by_cases g : (l : Int) < A 1
    · have q1 := q.1 g
      refine ⟨fun _ => ?_, fun w => by omega, ?_⟩
      · by_cases z : A (107 + l) = k
        · rw [if_neg (fun w => by omega)] at q1
          rw [if_pos ⟨by omega, by omega⟩, if_pos ⟨by omega, by rw [z]; exact hy⟩]
        · by_cases z2 : (0 ≤ A (107 + l) ∧ A (107 + l) < (k : Int)) ∧ fsI ru A (A (107 + l)) = 1
          · rw [if_pos z2] at q1
            rw [if_neg (show ¬ (l < (A 1).toNat ∧ r (24 + l) = k) by omega), if_pos ⟨by omega, z2.2⟩, q1]
          · rw [if_neg z2] at q1
            rw [if_neg (show ¬ (l < (A 1).toNat ∧ r (24 + l) = k) by omega), if_neg (fun w => z2 ⟨by omega, w.2⟩), q1]
      · by_cases z : A (107 + l) = k
        · rw [if_neg (fun w => by omega)] at q1
          rw [if_pos ⟨by omega, by omega⟩, if_pos ⟨g, by omega, by rw [z]; exact hy⟩]
        · by_cases z2 : (0 ≤ A (107 + l) ∧ A (107 + l) < (k : Int)) ∧ fsI ru A (A (107 + l)) = 1
          · rw [if_pos z2] at q1
            rw [if_pos ⟨g, z2⟩] at q3
            rw [if_neg (show ¬ (l < (A 1).toNat ∧ r (24 + l) = k) by omega), if_pos ⟨g, by omega, z2.2⟩, q3]
          · rw [if_neg z2] at q1
            rw [if_neg (fun w => z2 w.2)] at q3
            rw [if_neg (show ¬ (l < (A 1).toNat ∧ r (24 + l) = k) by omega), if_neg (fun w => z2 ⟨by omega, w.2.2⟩), q3]
    · have q2 := q.2.1 (by omega)
      rw [if_neg (fun w => g w.1)] at q3
      refine ⟨fun w => absurd w g, fun w => ?_, ?_⟩
      · rw [if_neg (show ¬ (l < (A 1).toNat ∧ r (24 + l) = k) by omega), q2]
      · rw [if_neg (show ¬ (l < (A 1).toNat ∧ r (24 + l) = k) by omega), if_neg (fun w => g w.1), q3]
  · rw [clR_o hL2 (by omega), hlo _ (by omega), mU_n (by omega), mU_n (by omega), mU_n (by omega)]; exact h.2.2.1
  · rw [clR_o hL2 (by omega), hlo _ (by omega), mU_n (by omega), mU_n (by omega), mU_n (by omega)]; exact h.2.2.2.1
  · rw [clR_o hL2 (by omega), hlo _ (by omega), mU_n (by omega), mU_n (by omega), mU_n (by omega)]; exact h.2.2.2.2.1
  · rw [clR_o hL2 (by omega)]; exact h51
/-- those who are on go on -/
theorem pI_end {ru : RU} {A r len : Int → Int} {h0 : Int} (h : pI ru A h0 (A 0).toNat r) (hw : WS A) (hd : WD A) (hlen : ∀ b : Nat, b < 6 → len b = A (10 + b)) : RD (mvR r len (A 0) (A 1).toNat) (hA ru A) := by
  have hw0 := hw.1
  have hw1 := hw.2.1
  have hL2 : (A 1).toNat ≤ 12 := by omega
  unfold RD
  rw [hA_lo (i := 1) (by decide) (by decide), hA_lo (i := 80) (by decide) (by decide), hA_lo (i := 82) (by decide) (by decide)]
  refine ⟨fun b hb => ?_, fun l hl => ?_, ?_, ?_, ?_⟩
  · have q := h.1 b hb
    rw [mvR_o hL2 (i := b) (by omega), mvR_o hL2 (i := 6 + b) (by omega), mvR_o hL2 (i := 12 + b) (by omega), mvR_o hL2 (i := 18 + b) (by omega), hA_lo (i := 83 + b) (by omega) (by omega), hA_w (b := b) (by omega), hA_d (b := b) (by omega), hA_s (b := b) (by omega), q.1, q.2.1, q.2.2.1, q.2.2.2]
    have b1 := bitA_01 (ru := ru) (A := A) (b := b) (by omega)
    have b2 := bitA_up (ru := ru) (A := A) (b := b) (by omega)
    have b3 := fsI_bit (ru := ru) (A := A) (b := b)
    have e : (b < (A 0).toNat ∧ fsI ru A b = 1) ↔ fsI ru A b = 1 := ⟨fun w => w.2, fun w => ⟨by have := b2 (b3 w); omega, w⟩⟩
    simp only [e]
    refine ⟨trivial, ?_, trivial, trivial⟩
    by_cases z : b < (A 0).toNat
    · rw [if_pos z]
    · rw [if_neg z]
      rcases b1 with b1 | b1
      · rw [b1]
      · have := b2 b1; omega
  · have q := h.2.1 l hl
    have e := hd.2.2.2.2 l hl
    have q3 := q.2.2
    rw [hA_wh (l := l) (by omega), hA_si (l := l) (by omega), mvR_wh hL2 hl, mvR_si hL2 hl]
    rcases hWS_c ru A l with ⟨a1, a2, a3, a4, a5⟩ | ⟨a1, a2, a3, a6, a4, a5⟩ | ⟨a1, a2, a3, a6, a4, a5⟩ | ⟨a1, a2, a4, a5⟩ | ⟨a1, a4, a5⟩
    · have e2 := e.2.2.1 a1 a2.1 a2.2
      have q1 := q.1 a1
      rw [if_pos ⟨by omega, a3⟩] at q1
      rw [if_pos ⟨a1, by omega, a3⟩] at q3
      rw [a4, a5, if_pos (by omega), if_pos (by omega), q1, q3]
      unfold mW mS
      rw [if_neg (by omega), if_neg (by omega)]
      exact ⟨fun _ => rfl, fun w => by omega, rfl⟩
    · have e2 := e.2.2.1 a1 a2.1 a2.2
      obtain ⟨b, hb⟩ : ∃ b : Nat, A (107 + l) = b := ⟨(A (107 + l)).toNat, by omega⟩
      have e3 := hlen b (by omega)
      rw [← hb] at e3
      have q1 := q.1 a1
      rw [if_neg (fun w => a3 w.2)] at q1
      rw [if_neg (fun w => a3 w.2.2)] at q3
      rw [a4, a5, if_pos (by omega), if_pos (by omega), q1, q3]
      unfold mW mS
      rw [e3, if_pos ⟨by omega, a6⟩, if_pos (by omega), if_pos a6]
      exact ⟨fun _ => rfl, fun w => by omega, rfl⟩
    · have e2 := e.2.2.1 a1 a2.1 a2.2
      obtain ⟨b, hb⟩ : ∃ b : Nat, A (107 + l) = b := ⟨(A (107 + l)).toNat, by omega⟩
      have e3 := hlen b (by omega)
      rw [← hb] at e3
      have q1 := q.1 a1
      rw [if_neg (fun w => a3 w.2)] at q1
      rw [if_neg (fun w => a3 w.2.2)] at q3
      rw [a4, a5, if_pos (by omega), if_pos (by omega), q1, q3]
      unfold mW mS
      rw [e3, if_neg (fun w => a6 w.2), if_pos (by omega), if_neg a6]
      exact ⟨fun _ => rfl, fun w => by omega, rfl⟩
    · have q1 := q.1 a1
      rw [if_neg (fun w => by omega)] at q1
      rw [if_neg (fun w => by omega)] at q3
      rw [a4, a5, if_pos (by omega), if_pos (by omega), q1, q3]
      unfold mW mS
      rw [if_neg (fun w => by omega), if_neg (by omega)]
      exact ⟨fun _ => rfl, fun w => by omega, rfl⟩
    · have q2 := q.2.1 a1
      rw [if_neg (fun w => by omega)] at q3
      rw [a4, a5, if_neg (by omega), if_neg (by omega), q3]
      exact ⟨fun w => by omega, fun _ => q2, rfl⟩
  · rw [mvR_o hL2 (by omega)]; exact h.2.2.1
  · rw [mvR_o hL2 (by omega)]; exact h.2.2.2.2.1
  · rw [mvR_o hL2 (by omega)]; exact h.2.2.2.2.2
