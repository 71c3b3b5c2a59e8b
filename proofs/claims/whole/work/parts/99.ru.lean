/-! a choice: the class, the search -/
theorem wd_pre {C n f i x : Nat} {w : Int → Int} (hf : f + i = n) (hw : ∀ j : Nat, j < i → -1 ≤ w j ∧ w j + 1 < C) (h1 : vlW C w i * C ^ f ≤ x) (h2 : x < (vlW C w i + 1) * C ^ f) {k : Nat} (hk : k < i) : wd C n x k = w k := by
  have q := hw k hk
  have e : x / C ^ f = vlW C w i := Nat.div_eq_of_lt_le h1 h2
  show ((x / C ^ (n - 1 - k) % C : Nat) : Int) - 1 = w k
  rw [show n - 1 - k = f + (i - 1 - k) by omega, Nat.pow_add, ← Nat.div_div_eq_div_mul, e, vlW_dg i hw hk]
  omega
/-- the options of a number -/
def ov (C n x : Nat) : Int → Int := fun k => wd C n x k + 1
def vO (C : Nat) (v : Int → Int) (i : Nat) : Nat := vlW C (fun k => v k - 1) i
theorem vO_s {C : Nat} {v : Int → Int} {i : Nat} : vO C v (i + 1) = vO C v i * C + (v i).toNat := by
  unfold vO
  rw [vlW_s, show v i - 1 + 1 = v i by omega]
theorem vO_c {C : Nat} {w v : Int → Int} (n : Nat) (h : ∀ j : Nat, j < n → w j = v j) : vO C w n = vO C v n := vlW_c n (fun j hj => by rw [h j hj])
theorem ov_pre {C n f i x : Nat} {v : Int → Int} (hf : f + i = n) (hv : ∀ j : Nat, j < i → 0 ≤ v j ∧ v j < C) (h1 : vO C v i * C ^ f ≤ x) (h2 : x < (vO C v i + 1) * C ^ f) {k : Nat} (hk : k < i) : ov C n x k = v k := by
  have := wd_pre (w := fun k => v k - 1) hf (fun j hj => by have := hv j hj; omega) h1 h2 hk
  unfold ov
  omega
theorem ov_R {C n x : Nat} (hC : 0 < C) (k : Int) : 0 ≤ ov C n x k ∧ ov C n x k < C := by
  have := wd_R (n := n) (x := x) hC k
  unfold ov
  omega
def smV (v : Int → Int) : Nat → Int
  | 0 => 0
  | k + 1 => smV v k + v k
theorem smV_s {v : Int → Int} {k : Nat} : smV v (k + 1) = smV v k + v k := rfl
theorem smV_c {v u : Int → Int} : ∀ n : Nat, (∀ j : Nat, j < n → v j = u j) → smV v n = smV u n
  | 0, _ => rfl
  | n + 1, h => by rw [smV_s, smV_s, smV_c n (fun j hj => h j (by omega)), h n (by omega)]
theorem smV_le {v : Int → Int} {i : Nat} : ∀ n : Nat, i ≤ n → (∀ j : Nat, j < n → 0 ≤ v j) → smV v i ≤ smV v n
  | 0, h, _ => by rw [show i = 0 by omega]; exact Int.le_refl _
  | n + 1, h, hv => by
    by_cases e : i = n + 1
    · rw [e]; exact Int.le_refl _
    · have := smV_le (i := i) n (by omega) (fun j hj => hv j (by omega))
      have := hv n (by omega)
      rw [smV_s]
      omega
def coV (sh o : Int) : Int := if sh = 1 then (if 0 < o then 1 else 0) else (if o < 5 then 5 - o else o - 5)
def csV (sh : Int) (v : Int → Int) : Nat → Int
  | 0 => 0
  | k + 1 => csV sh v k + coV sh (v k)
theorem csV_s {sh : Int} {v : Int → Int} {k : Nat} : csV sh v (k + 1) = csV sh v k + coV sh (v k) := rfl
theorem csV_c {sh : Int} {v u : Int → Int} : ∀ n : Nat, (∀ j : Nat, j < n → v j = u j) → csV sh v n = csV sh u n
  | 0, _ => rfl
  | n + 1, h => by rw [csV_s, csV_s, csV_c n (fun j hj => h j (by omega)), h n (by omega)]
theorem coV_0 {sh o : Int} : 0 ≤ coV sh o := by
  unfold coV
  split
  · split <;> decide
  · split <;> omega
theorem csV_le {sh : Int} {v : Int → Int} {i : Nat} : ∀ n : Nat, i ≤ n → csV sh v i ≤ csV sh v n
  | 0, h => by rw [show i = 0 by omega]; exact Int.le_refl _
  | n + 1, h => by
    by_cases e : i = n + 1
    · rw [e]; exact Int.le_refl _
    · have := csV_le (sh := sh) (v := v) (i := i) n (by omega)
      have := coV_0 (sh := sh) (o := v n)
      rw [csV_s]
      omega
theorem c_costOf {d : Nat} {M : mM} {K : mQ} {sh o : Int} (hsh : sh = 0 ∨ sh = 1) (h9 : M 74 9 = sh) (ho : 0 ≤ o ∧ o ≤ 100) : mCall (d + 1) 7 [vr 74, vi o] M K = K (some (vi (coV sh o))) M := by
  unfold coV
  rcases hsh with rfl | rfl
  · rw [if_neg (by decide)]
    have e : iAbs (o - 5) = if o < 5 then 5 - o else o - 5 := by
      unfold iAbs
      by_cases c : o < 5
      · rw [if_pos c, if_neg (by omega), w32_s (by omega)]
        omega
      · rw [if_neg c, if_pos (by omega)]
    simp (disch := first | decide | omega) only [b7, w7_0, w7_1, w7_4, w7_7, w7_8, w7_11, w7_12, w7_15, w7_16, w7_17, w7_18, w7_19, w7_20, w7_23, tc74, tr74_0, tr74_1, tr74_2, tr74_3, tr74_4, tr74_5, tr74_6, ta75, tn75, ta76, tn76, ta77, tn77, ta78, tn78, ta79, tn79, xLoad_i, xLoad_l, xLoad_r, xInc_s, xBr_t, xBr_f, xNz_s, xGf_s, xPf_s, xPz_s, xLd_2, xLd_7, xLd_10, xLdb_3, xLdb_5, xLdb_9, xLdl_4, xLdr_6, xSt_2, xStl_4, xStb_3, xStb_5, xLen_s, xLen_10, xCpy_s, xIv_s, xMx_s, mCont_s, mCont_n, w32_s, w64_s, upC_e, upC_n, upC_u, upC_c, mEn_c, mEn_n, mcw_i, mcw_l, mcw_r, mcat_n, mcat_i, mcat_l, mcat_r, xlong_i, xlong_l, xlong_r, xlong_n, s1_at, s2_at, ↓reduceIte, reduceCtorEq, and_self, true_and, and_true, false_and, and_false, Bool.false_eq_true, ne_eq, not_true_eq_false, not_false_eq_true, or_true, true_or, or_false, false_or, or_self, Int.tmod_eq_emod_of_nonneg, Int.tdiv_eq_ediv_of_nonneg, Classical.not_not, xSw, rOK, b2i_ok, b2i_0, b2i_1, Nat.reduceAdd, Nat.reduceSub, Nat.reduceMul, Nat.reduceEqDiff, Nat.reduceLeDiff, Nat.reduceLT, Int.reduceAdd, Int.reduceSub, Int.reduceMul, Int.reduceNeg, Int.reduceEq, Int.reduceNe, Int.reduceLT, Int.reduceLE, Int.reduceToNat, Int.reduceTDiv, Int.reduceTMod, b2i_em, h9, e]
  · rw [if_pos rfl]
    by_cases c : 0 < o
    · rw [if_pos c]
      simp (disch := first | decide | omega) only [b7, w7_0, w7_1, w7_4, w7_7, w7_8, w7_11, w7_12, w7_15, w7_16, w7_17, w7_18, w7_19, w7_20, w7_23, tc74, tr74_0, tr74_1, tr74_2, tr74_3, tr74_4, tr74_5, tr74_6, ta75, tn75, ta76, tn76, ta77, tn77, ta78, tn78, ta79, tn79, xLoad_i, xLoad_l, xLoad_r, xInc_s, xBr_t, xBr_f, xNz_s, xGf_s, xPf_s, xPz_s, xLd_2, xLd_7, xLd_10, xLdb_3, xLdb_5, xLdb_9, xLdl_4, xLdr_6, xSt_2, xStl_4, xStb_3, xStb_5, xLen_s, xLen_10, xCpy_s, xIv_s, xMx_s, mCont_s, mCont_n, w32_s, w64_s, upC_e, upC_n, upC_u, upC_c, mEn_c, mEn_n, mcw_i, mcw_l, mcw_r, mcat_n, mcat_i, mcat_l, mcat_r, xlong_i, xlong_l, xlong_r, xlong_n, s1_at, s2_at, ↓reduceIte, reduceCtorEq, and_self, true_and, and_true, false_and, and_false, Bool.false_eq_true, ne_eq, not_true_eq_false, not_false_eq_true, or_true, true_or, or_false, false_or, or_self, Int.tmod_eq_emod_of_nonneg, Int.tdiv_eq_ediv_of_nonneg, Classical.not_not, xSw, rOK, b2i_ok, b2i_0, b2i_1, Nat.reduceAdd, Nat.reduceSub, Nat.reduceMul, Nat.reduceEqDiff, Nat.reduceLeDiff, Nat.reduceLT, Int.reduceAdd, Int.reduceSub, Int.reduceMul, Int.reduceNeg, Int.reduceEq, Int.reduceNe, Int.reduceLT, Int.reduceLE, Int.reduceToNat, Int.reduceTDiv, Int.reduceTMod, b2i_em, h9]
    · rw [if_neg c]
      simp (disch := first | decide | omega) only [b7, w7_0, w7_1, w7_4, w7_7, w7_8, w7_11, w7_12, w7_15, w7_16, w7_17, w7_18, w7_19, w7_20, w7_23, tc74, tr74_0, tr74_1, tr74_2, tr74_3, tr74_4, tr74_5, tr74_6, ta75, tn75, ta76, tn76, ta77, tn77, ta78, tn78, ta79, tn79, xLoad_i, xLoad_l, xLoad_r, xInc_s, xBr_t, xBr_f, xNz_s, xGf_s, xPf_s, xPz_s, xLd_2, xLd_7, xLd_10, xLdb_3, xLdb_5, xLdb_9, xLdl_4, xLdr_6, xSt_2, xStl_4, xStb_3, xStb_5, xLen_s, xLen_10, xCpy_s, xIv_s, xMx_s, mCont_s, mCont_n, w32_s, w64_s, upC_e, upC_n, upC_u, upC_c, mEn_c, mEn_n, mcw_i, mcw_l, mcw_r, mcat_n, mcat_i, mcat_l, mcat_r, xlong_i, xlong_l, xlong_r, xlong_n, s1_at, s2_at, ↓reduceIte, reduceCtorEq, and_self, true_and, and_true, false_and, and_false, Bool.false_eq_true, ne_eq, not_true_eq_false, not_false_eq_true, or_true, true_or, or_false, false_or, or_self, Int.tmod_eq_emod_of_nonneg, Int.tdiv_eq_ediv_of_nonneg, Classical.not_not, xSw, rOK, b2i_ok, b2i_0, b2i_1, Nat.reduceAdd, Nat.reduceSub, Nat.reduceMul, Nat.reduceEqDiff, Nat.reduceLeDiff, Nat.reduceLT, Int.reduceAdd, Int.reduceSub, Int.reduceMul, Int.reduceNeg, Int.reduceEq, Int.reduceNe, Int.reduceLT, Int.reduceLE, Int.reduceToNat, Int.reduceTDiv, Int.reduceTMod, b2i_em, h9]
def GV (ru : RU) (A : Int → Int) (L : List Nat) (F : Int → Int) (n : Nat) (sh W : Int) (AL : Nat → Nat → Bool) (v : Int → Int) : Prop := (∀ i : Nat, i < n → AL i (v i).toNat = true) ∧ (∀ i : Nat, i < n → ∀ e : Nat, e < i → FTb ru A L F e i (v e).toNat (v i).toNat = true) ∧ (sh = 1 → smV v n = W)
theorem GV_c {ru : RU} {A : Int → Int} {L : List Nat} {F : Int → Int} {n : Nat} {sh W : Int} {AL : Nat → Nat → Bool} {v u : Int → Int} (h : ∀ j : Nat, j < n → v j = u j) (g : GV ru A L F n sh W AL v) : GV ru A L F n sh W AL u :=
  ⟨fun i hi => by rw [← h i hi]; exact g.1 i hi, fun i hi e he => by rw [← h i hi, ← h e (by omega)]; exact g.2.1 i hi e he, fun e => by rw [← smV_c n h]; exact g.2.2 e⟩
def HIT (ru : RU) (A : Int → Int) (L : List Nat) (F : Int → Int) (n C : Nat) (sh W : Int) (AL : Nat → Nat → Bool) (c0 : Int) (x : Nat) : Prop := GV ru A L F n sh W AL (ov C n x) ∧ csV sh (ov C n x) n = c0
/-- what a hit in a block says of the next option -/
theorem HIT_pre {ru : RU} {A : Int → Int} {L : List Nat} {F : Int → Int} {n C : Nat} {sh W : Int} {AL : Nat → Nat → Bool} {c0 : Int} {x f i o : Nat} {w : Int → Int} (hC : 0 < C) (hf : f + (i + 1) = n) (hw : ∀ j : Nat, j < i → 0 ≤ w j ∧ w j < C) (ho : o < C) (h1 : (vO C w i * C + o) * C ^ f ≤ x) (h2 : x < (vO C w i * C + o + 1) * C ^ f) (h : HIT ru A L F n C sh W AL c0 x) : AL i o = true ∧ (∀ e : Nat, e < i → FTb ru A L F e i (w e).toNat o = true) ∧ coV sh o ≤ c0 - csV sh w i ∧ (sh = 1 → (o : Int) ≤ W - smV w i ∧ (i + 1 = n → (o : Int) = W - smV w i)) := by
  have hv : ∀ j : Nat, j < i + 1 → 0 ≤ mU w i o j ∧ mU w i o j < C := fun j hj => by
    by_cases e : j = i
    · rw [e, mU_e]; omega
    · rw [mU_n (by omega)]; exact hw j (by omega)
  have hval : vO C (mU w i o) (i + 1) = vO C w i * C + o := by
    rw [vO_s, mU_e, Int.toNat_natCast, vO_c i (fun j hj => mU_n (by omega))]
  have hp : ∀ k : Nat, k < i + 1 → ov C n x k = mU w i o k := fun k hk => ov_pre hf hv (by rw [hval]; exact h1) (by rw [hval]; exact h2) hk
  have hi := hp i (by omega)
  rw [mU_e] at hi
  have hj : ∀ k : Nat, k < i → ov C n x k = w k := fun k hk => by rw [hp k (by omega), mU_n (by omega)]
  obtain ⟨⟨g1, g2, g3⟩, g4⟩ := h
  have hcs := csV_s (sh := sh) (v := ov C n x) (k := i)
  have hsm := smV_s (v := ov C n x) (k := i)
  rw [csV_c i hj, hi] at hcs
  rw [smV_c i hj, hi] at hsm
  refine ⟨?_, fun e he => ?_, ?_, fun e1 => ⟨?_, fun e2 => ?_⟩⟩
  · have := g1 i (by omega)
    rw [hi, Int.toNat_natCast] at this
    exact this
  · have := g2 i (by omega) e he
    rw [hi, hj e he, Int.toNat_natCast] at this
    exact this
  · have := csV_le (sh := sh) (v := ov C n x) (i := i + 1) n (by omega)
    omega
  · have := smV_le (v := ov C n x) (i := i + 1) n (by omega) (fun j _ => (ov_R hC j).1)
    have := g3 e1
    omega
  · have := g3 e1
    have e3 : smV (ov C n x) n = smV (ov C n x) (i + 1) := by rw [e2]
    omega
def aF (ru : RU) (A : Int → Int) (L : List Nat) (F : Int → Int) (C i : Nat) (w : Int → Int) : Nat → Nat → Bool
  | 0, _ => true
  | e + 1, o => aF ru A L F C i w e o && (decide (o < C) && FTb ru A L F e i (w e).toNat o)
theorem aF_s {ru : RU} {A : Int → Int} {L : List Nat} {F : Int → Int} {C i : Nat} {w : Int → Int} {e o : Nat} : aF ru A L F C i w (e + 1) o = (aF ru A L F C i w e o && (decide (o < C) && FTb ru A L F e i (w e).toNat o)) := rfl
theorem aF_t {ru : RU} {A : Int → Int} {L : List Nat} {F : Int → Int} {C i o : Nat} {w : Int → Int} (ho : o < C) : ∀ m, aF ru A L F C i w m o = true ↔ ∀ e : Nat, e < m → FTb ru A L F e i (w e).toNat o = true
  | 0 => ⟨fun _ e he => absurd he (by omega), fun _ => rfl⟩
  | m + 1 => by
    have ih := aF_t (ru := ru) (A := A) (L := L) (F := F) (i := i) (w := w) ho m
    rw [aF_s]
    simp only [Bool.and_eq_true, decide_eq_true_eq]
    constructor
    · rintro ⟨h1, -, h2⟩ e he
      by_cases c : e = m
      · rw [c]; exact h2
      · exact ih.mp h1 e (by omega)
    · intro h
      exact ⟨ih.mpr (fun e he => h e (by omega)), ho, h m (by omega)⟩
abbrev QCh : List Nat := [76, 79, 66, 34, 42, 50, 58]
