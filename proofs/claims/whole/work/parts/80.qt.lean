/-! a load of those asked about: its place among them -/
theorem getD_al {L1 L2 : List Nat} {k : Nat} (h : k < L1.length) : (L1 ++ L2).getD k 0 = L1.getD k 0 := by
  rw [List.getD_eq_getElem?_getD, List.getD_eq_getElem?_getD, List.getElem?_append_left h]
theorem getD_ar {L1 : List Nat} {x : Nat} : (L1 ++ [x]).getD L1.length 0 = x := by
  rw [List.getD_eq_getElem?_getD, List.getElem?_append_right (Nat.le_refl _), Nat.sub_self]
  rfl
theorem mbr_get {s : Int} {n k : Nat} (h : k < (mbr s n).length) : (mbr s n).getD k 0 < n ∧ iAnd (iShr s ((mbr s n).getD k 0 : Nat)) 1 = 1 := by
  apply mbr_in
  rw [List.getD_eq_getElem?_getD, List.getElem?_eq_getElem h]
  exact List.getElem_mem h
theorem mbr_lt {s : Int} {i j : Nat} (hij : i < j) : ∀ n, j < (mbr s n).length → (mbr s n).getD i 0 < (mbr s n).getD j 0
  | 0, h => by cases h
  | n + 1, h => by
    rw [mbr_s] at h ⊢
    by_cases c : iAnd (iShr s n) 1 = 1
    · rw [if_pos c] at h ⊢
      rw [List.length_append, List.length_singleton] at h
      by_cases e : j < (mbr s n).length
      · rw [getD_al (by omega), getD_al e]
        exact mbr_lt hij n e
      · obtain rfl : j = (mbr s n).length := by omega
        rw [getD_al hij, getD_ar]
        exact (mbr_get hij).1
    · rw [if_neg c, List.append_nil] at h ⊢
      exact mbr_lt hij n h
theorem mbr_ex {s : Int} {x : Nat} (hb : iAnd (iShr s x) 1 = 1) : ∀ n, x < n → ∃ k, k < (mbr s n).length ∧ (mbr s n).getD k 0 = x
  | 0, h => by omega
  | n + 1, h => by
    rw [mbr_s]
    by_cases e : x = n
    · subst e
      rw [if_pos hb]
      exact ⟨(mbr s x).length, by rw [List.length_append, List.length_singleton]; omega, getD_ar⟩
    · obtain ⟨k, h1, h2⟩ := mbr_ex hb n (by omega)
      exact ⟨k, by rw [List.length_append]; omega, by rw [getD_al h1, h2]⟩
def ask (L : List Nat) (x : Int) : Nat → Int
  | 0 => -1
  | k + 1 => if ((L.getD k 0 : Nat) : Int) = x then ((k : Nat) : Int) else ask L x k
theorem ask_s {L : List Nat} {x : Int} {k : Nat} : ask L x (k + 1) = if ((L.getD k 0 : Nat) : Int) = x then ((k : Nat) : Int) else ask L x k := rfl
theorem ask_no {L : List Nat} {x : Int} : ∀ n, (∀ j, j < n → ((L.getD j 0 : Nat) : Int) ≠ x) → ask L x n = -1
  | 0, _ => rfl
  | n + 1, h => by rw [ask_s, if_neg (h n (by omega)), ask_no n (fun j hj => h j (by omega))]
theorem ask_at {L : List Nat} {x : Int} {k : Nat} (hk : ((L.getD k 0 : Nat) : Int) = x) : ∀ n, k < n → (∀ j, k < j → j < n → ((L.getD j 0 : Nat) : Int) ≠ x) → ask L x n = k
  | 0, h, _ => by omega
  | n + 1, h, g => by
    rw [ask_s]
    by_cases e : k = n
    · subst e
      rw [if_pos hk]
    · rw [if_neg (g n (by omega) (by omega)), ask_at hk n (by omega) (fun j h1 h2 => g j h1 (by omega))]
def isI (s x : Int) : Prop := 0 ≤ x ∧ x < 31 ∧ iAnd (iShr s x) 1 = 1
theorem mbr_ask {s x : Int} (h : isI s x) : ∃ k, k < (mbr s 31).length ∧ ask (mbr s 31) x (mbr s 31).length = k ∧ (((mbr s 31).getD k 0 : Nat) : Int) = x ∧ ∀ j, j < k → (((mbr s 31).getD j 0 : Nat) : Int) ≠ x := by
  obtain ⟨h1, h2, h3⟩ := h
  obtain ⟨y, rfl⟩ := Int.eq_ofNat_of_zero_le h1
  obtain ⟨k, e1, e2⟩ := mbr_ex h3 31 (by omega)
  refine ⟨k, e1, ask_at (by rw [e2]) _ e1 (fun j a b => ?_), by rw [e2], fun j a => ?_⟩
  · have := mbr_lt a 31 b
    omega
  · have := mbr_lt a 31 e1
    omega
theorem mbr_ask0 {s x : Int} (h : ¬ isI s x) : ask (mbr s 31) x (mbr s 31).length = -1 := by
  refine ask_no _ (fun j hj e => h ?_)
  have := mbr_get hj
  unfold isI
  rw [← e]
  exact ⟨by omega, by omega, this.2⟩
theorem a_areW1 {d : Nat} {M : mM} {K : mQ} {A : Int → Int} {ru : RU} (h : CX M A ru) {z n : Int} (hz : R32 z) (c : chO A z n) : mCall (d + 2) 94 [vr 2, vi z, vi n] M K = K (some (vi 1)) M := by
  have h1 := h.1.2.1
  have h2 := h.2.2.2.1.2.1
  have e : lwS (fun k => M 9 (24 + k)) (-1) (A 1).toNat = lwS (fun k => A (107 + k)) (-1) (A 1).toNat := lwS_cong (fun k hk => (h.2.1.2.1 k (by omega)).1 (by omega))
  rw [c_areWaiting (by omega), h1, e, b2i_t ((wait_iff h2 hz).mpr c)]
theorem a_areW0 {d : Nat} {M : mM} {K : mQ} {A : Int → Int} {ru : RU} (h : CX M A ru) {z n : Int} (hz : R32 z) (c : ¬ chO A z n) : mCall (d + 2) 94 [vr 2, vi z, vi n] M K = K (some (vi 0)) M := by
  have h1 := h.1.2.1
  have h2 := h.2.2.2.1.2.1
  have e : lwS (fun k => M 9 (24 + k)) (-1) (A 1).toNat = lwS (fun k => A (107 + k)) (-1) (A 1).toNat := lwS_cong (fun k hk => (h.2.1.2.1 k (by omega)).1 (by omega))
  rw [c_areWaiting (by omega), h1, e, b2i_f (fun g => c ((wait_iff h2 hz).mp g))]
theorem c_isI1 {d : Nat} {M : mM} {K : mQ} {s n : Int} (h : isI s n) : mCall (d + 1) 159 [vi s, vi n] M K = K (some (vi 1)) M := by
  rw [c_isIn, b2i_t (c := 0 ≤ n ∧ n < 31 ∧ iAnd (iShr s n) 1 = 1) h]
theorem c_isI0 {d : Nat} {M : mM} {K : mQ} {s n : Int} (h : ¬ isI s n) : mCall (d + 1) 159 [vi s, vi n] M K = K (some (vi 0)) M := by
  rw [c_isIn, b2i_f (c := 0 ≤ n ∧ n < 31 ∧ iAnd (iShr s n) 1 = 1) h]
/-! rest: both sides -/
theorem c_place7 {d n k : Nat} {M : mM} {K : mQ} {L : List Nat} {x : Int} (hn : n ≤ 6) (h4 : M 94 4 = n) (hl : L.length = n) (hL : LO (M 95) L) (hk : k < n) (hx : ((L.getD k 0 : Nat) : Int) = x) (hu : ∀ j, j < k → ((L.getD j 0 : Nat) : Int) ≠ x) : mCall (d + 1) 69 [vr 94, vi x] M K = K (some (vi (M 96 k))) M := by
  simp (disch := first | decide | omega) only [b69, w69_0, w69_1, w69_3, w69_4, w69_7, w69_10, w69_11, w69_14, w69_15, w69_16, w69_17, w69_20, w69_21, w69_24, w69_25, w69_26, w69_27, w69_30, w69_33, w69_34, tc94, tr94_0, tr94_1, tr94_2, tr94_3, ta95, tn95, ta96, tn96, xLoad_i, xLoad_l, xLoad_r, xInc_s, xBr_t, xBr_f, xNz_s, xGf_s, xPf_s, xPz_s, xLd_2, xLd_7, xLd_10, xLdb_3, xLdb_5, xLdb_9, xLdl_4, xLdr_6, xSt_2, xStl_4, xStb_3, xStb_5, xLen_s, xLen_10, xCpy_s, xIv_s, xMx_s, mCont_s, mCont_n, w32_s, w64_s, upC_e, upC_n, upC_u, upC_c, mEn_c, mEn_n, mcw_i, mcw_l, mcw_r, mcat_n, mcat_i, mcat_l, mcat_r, xlong_i, xlong_l, xlong_r, xlong_n, s1_at, s2_at, ↓reduceIte, reduceCtorEq, and_self, true_and, and_true, false_and, and_false, Bool.false_eq_true, ne_eq, not_true_eq_false, not_false_eq_true, or_true, true_or, or_false, false_or, or_self, Int.tmod_eq_emod_of_nonneg, Int.tdiv_eq_ediv_of_nonneg, Classical.not_not, xSw, rOK, b2i_ok, b2i_0, b2i_1, Nat.reduceAdd, Nat.reduceSub, Nat.reduceMul, Nat.reduceEqDiff, Nat.reduceLeDiff, Nat.reduceLT, Int.reduceAdd, Int.reduceSub, Int.reduceMul, Int.reduceNeg, Int.reduceEq, Int.reduceNe, Int.reduceLT, Int.reduceLE, Int.reduceToNat, Int.reduceTDiv, Int.reduceTMod, b2i_em]
  refine loopL (P := fun j lv M' => M' = M ∧ lv 0 = some (vr 94) ∧ lv 1 = some (vi x) ∧ lv 2 = some (vi (j : Nat))) (G := fun lv M' => rn d 69 K 2 lv [] M' = K (some (vi (M 96 k))) M) k 0 (Nat.zero_le _) _ _ ⟨rfl, ?_, ?_, ?_⟩ (fun j hj ih lv M' hI => ?_) (fun lv M' hI => ?_)
  any_goals (simp [s1_at, s2_at, mEn_c, mcw_r, mcw_i, mcw_l, xlong_i, xlong_r, xlong_l, xlong_n]; done)
  · obtain ⟨rfl, g0, g1, g2⟩ := hI
    have q := hL j (by omega)
    have qx := hu j hj
    rw [w69_2]
    simp (disch := first | decide | omega) only [b69, w69_0, w69_1, w69_3, w69_4, w69_7, w69_10, w69_11, w69_14, w69_15, w69_16, w69_17, w69_20, w69_21, w69_24, w69_25, w69_26, w69_27, w69_30, w69_33, w69_34, tc94, tr94_0, tr94_1, tr94_2, tr94_3, ta95, tn95, ta96, tn96, xLoad_i, xLoad_l, xLoad_r, xInc_s, xBr_t, xBr_f, xNz_s, xGf_s, xPf_s, xPz_s, xLd_2, xLd_7, xLd_10, xLdb_3, xLdb_5, xLdb_9, xLdl_4, xLdr_6, xSt_2, xStl_4, xStb_3, xStb_5, xLen_s, xLen_10, xCpy_s, xIv_s, xMx_s, mCont_s, mCont_n, w32_s, w64_s, upC_e, upC_n, upC_u, upC_c, mEn_c, mEn_n, mcw_i, mcw_l, mcw_r, mcat_n, mcat_i, mcat_l, mcat_r, xlong_i, xlong_l, xlong_r, xlong_n, s1_at, s2_at, ↓reduceIte, reduceCtorEq, and_self, true_and, and_true, false_and, and_false, Bool.false_eq_true, ne_eq, not_true_eq_false, not_false_eq_true, or_true, true_or, or_false, false_or, or_self, Int.tmod_eq_emod_of_nonneg, Int.tdiv_eq_ediv_of_nonneg, Classical.not_not, xSw, rOK, b2i_ok, b2i_0, b2i_1, Nat.reduceAdd, Nat.reduceSub, Nat.reduceMul, Nat.reduceEqDiff, Nat.reduceLeDiff, Nat.reduceLT, Int.reduceAdd, Int.reduceSub, Int.reduceMul, Int.reduceNeg, Int.reduceEq, Int.reduceNe, Int.reduceLT, Int.reduceLE, Int.reduceToNat, Int.reduceTDiv, Int.reduceTMod, b2i_em, g0, g1, g2, h4, q, qx]
    refine ih _ _ ⟨rfl, ?_, ?_, ?_⟩
    all_goals simp [s1_at, s2_at, mEn_c, mcw_r, mcw_i, mcw_l, xlong_i, xlong_r, xlong_l, xlong_n, g0, g1, g2]
  · obtain ⟨rfl, g0, g1, g2⟩ := hI
    have q := hL k (by omega)
    rw [hx] at q
    rw [w69_2]
    simp (disch := first | decide | omega) only [b69, w69_0, w69_1, w69_3, w69_4, w69_7, w69_10, w69_11, w69_14, w69_15, w69_16, w69_17, w69_20, w69_21, w69_24, w69_25, w69_26, w69_27, w69_30, w69_33, w69_34, tc94, tr94_0, tr94_1, tr94_2, tr94_3, ta95, tn95, ta96, tn96, xLoad_i, xLoad_l, xLoad_r, xInc_s, xBr_t, xBr_f, xNz_s, xGf_s, xPf_s, xPz_s, xLd_2, xLd_7, xLd_10, xLdb_3, xLdb_5, xLdb_9, xLdl_4, xLdr_6, xSt_2, xStl_4, xStb_3, xStb_5, xLen_s, xLen_10, xCpy_s, xIv_s, xMx_s, mCont_s, mCont_n, w32_s, w64_s, upC_e, upC_n, upC_u, upC_c, mEn_c, mEn_n, mcw_i, mcw_l, mcw_r, mcat_n, mcat_i, mcat_l, mcat_r, xlong_i, xlong_l, xlong_r, xlong_n, s1_at, s2_at, ↓reduceIte, reduceCtorEq, and_self, true_and, and_true, false_and, and_false, Bool.false_eq_true, ne_eq, not_true_eq_false, not_false_eq_true, or_true, true_or, or_false, false_or, or_self, Int.tmod_eq_emod_of_nonneg, Int.tdiv_eq_ediv_of_nonneg, Classical.not_not, xSw, rOK, b2i_ok, b2i_0, b2i_1, Nat.reduceAdd, Nat.reduceSub, Nat.reduceMul, Nat.reduceEqDiff, Nat.reduceLeDiff, Nat.reduceLT, Int.reduceAdd, Int.reduceSub, Int.reduceMul, Int.reduceNeg, Int.reduceEq, Int.reduceNe, Int.reduceLT, Int.reduceLE, Int.reduceToNat, Int.reduceTDiv, Int.reduceTMod, b2i_em, g0, g1, g2, h4, q]
def rstP (ru : RU) (A : Int → Int) (L : List Nat) (x z : Int) : Prop := (∃ t : Nat, t < 40 ∧ (∀ u, u < t → tC ru A L L.length u = 1) ∧ tC ru A L L.length t = 0 ∧ z = if x = -1 then (t : Int) + 1 else w6 (tI ru A L L.length (t + 1) (ask L x L.length))) ∨ ((∀ u, u < 40 → tC ru A L L.length u = 1) ∧ z = -1)
theorem rstP_u {ru : RU} {A : Int → Int} {L : List Nat} {x y z : Int} (h1 : rstP ru A L x y) (h2 : rstP ru A L x z) : y = z := by
  rcases h1 with ⟨t, a1, a2, a3, a4⟩ | ⟨a1, a2⟩ <;> rcases h2 with ⟨u, b1, b2, b3, b4⟩ | ⟨b1, b2⟩
  · rcases Nat.lt_trichotomy t u with c | c | c
    · have := b2 t c; omega
    · subst c; rw [a4, b4]
    · have := a2 u c; omega
  · have := b1 t a1; omega
  · have := a1 u b1; omega
  · rw [a2, b2]
def okA (A : Int → Int) (s x m : Int) : Prop := chO A s m ∧ (x = -1 ∨ isI s x)
