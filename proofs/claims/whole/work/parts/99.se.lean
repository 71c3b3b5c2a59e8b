/-! shared: the reference's pieces -/
def eqv (w v : Int → Int) : Nat → Prop
  | 0 => True
  | n + 1 => eqv w v n ∧ w n = v n
def lexl (w v : Int → Int) : Nat → Prop
  | 0 => False
  | n + 1 => lexl w v n ∨ (eqv w v n ∧ w n < v n)
theorem eqv_i {w v : Int → Int} : ∀ n, eqv w v n ↔ ∀ j : Nat, j < n → w j = v j
  | 0 => ⟨fun _ j hj => absurd hj (by omega), fun _ => trivial⟩
  | n + 1 => by
    have ih := eqv_i (w := w) (v := v) n
    show eqv w v n ∧ w n = v n ↔ _
    rw [ih]
    constructor
    · rintro ⟨h1, h2⟩ j hj
      by_cases e : j = n
      · rw [e]; exact h2
      · exact h1 j (by omega)
    · intro h
      exact ⟨fun j hj => h j (by omega), h n (by omega)⟩
theorem vO_eq {C : Nat} {w v : Int → Int} {n : Nat} (hw : ∀ j : Nat, j < n → 0 ≤ w j ∧ w j < C) (hv : ∀ j : Nat, j < n → 0 ≤ v j ∧ v j < C) (h : vO C w n = vO C v n) : eqv w v n := by
  rw [eqv_i]
  intro j hj
  have h1 := ov_pre (f := 0) (n := n) (x := vO C w n) (by omega) hw (by rw [Nat.pow_zero, Nat.mul_one]; exact Nat.le_refl _) (by rw [Nat.pow_zero, Nat.mul_one]; omega) hj
  have h2 := ov_pre (f := 0) (n := n) (x := vO C v n) (by omega) hv (by rw [Nat.pow_zero, Nat.mul_one]; exact Nat.le_refl _) (by rw [Nat.pow_zero, Nat.mul_one]; omega) hj
  rw [h] at h1
  rw [← h1, h2]
theorem vO_lex {C : Nat} {w v : Int → Int} : ∀ n : Nat, (∀ j : Nat, j < n → 0 ≤ w j ∧ w j < C) → (∀ j : Nat, j < n → 0 ≤ v j ∧ v j < C) → (vO C w n < vO C v n ↔ lexl w v n)
  | 0, _, _ => by
    constructor
    · intro h; exact absurd h (Nat.lt_irrefl _)
    · intro h; cases h
  | n + 1, hw, hv => by
    have ih := vO_lex n (fun j hj => hw j (by omega)) (fun j hj => hv j (by omega))
    have h1 := hw n (by omega)
    have h2 := hv n (by omega)
    show _ ↔ lexl w v n ∨ (eqv w v n ∧ w n < v n)
    rw [vO_s, vO_s, ← ih]
    constructor
    · intro h
      rcases Nat.lt_trichotomy (vO C w n) (vO C v n) with g | g | g
      · exact Or.inl g
      · exact Or.inr ⟨vO_eq (fun j hj => hw j (by omega)) (fun j hj => hv j (by omega)) g, by rw [g] at h; omega⟩
      · have : (vO C v n + 1) * C ≤ vO C w n * C := Nat.mul_le_mul_right C g
        rw [Nat.add_mul, Nat.one_mul] at this
        omega
    · rintro (g | ⟨g, g2⟩)
      · have : (vO C w n + 1) * C ≤ vO C v n * C := Nat.mul_le_mul_right C g
        rw [Nat.add_mul, Nat.one_mul] at this
        omega
      · have e : vO C w n = vO C v n := vO_c n ((eqv_i n).mp g)
        rw [e]
        omega
/-- a way to share -/
def shV (v : Int → Int) (n : Nat) (W : Int) : Prop := (∀ j : Nat, j < n → 0 ≤ v j) ∧ smV v n = W
theorem shV_R {v : Int → Int} {n : Nat} {W : Int} (h : shV v n W) : ∀ j : Nat, j < n → 0 ≤ v j ∧ v j ≤ W := fun j hj => by
  have h1 := smV_le (v := v) (i := j + 1) n (by omega) h.1
  have h2 := smV_le (v := v) (i := 0) j (by omega) (fun k hk => h.1 k (by omega))
  have h3 : smV v (j + 1) = smV v j + v j := rfl
  have h4 : smV v 0 = 0 := rfl
  have h5 := h.2
  have h6 := h.1 j hj
  omega
/-- the next one: m is the last place that has something -/
def nxV (p p' : Int → Int) (n m : Nat) : Prop := 0 < p m ∧ (∀ i : Nat, m < i → i < n → p i = 0) ∧ (∀ i : Nat, i + 1 < m → p' i = p i) ∧ p' ((m - 1 : Nat) : Int) = p ((m - 1 : Nat) : Int) + 1 ∧ (∀ i : Nat, m ≤ i → i + 1 < n → p' i = 0) ∧ p' ((n - 1 : Nat) : Int) = p m - 1
theorem nxV_ok {p p' : Int → Int} {n m : Nat} {W : Int} (hn : n ≤ 4) (hm : 1 ≤ m ∧ m < n) (h : nxV p p' n m) (hp : shV p n W) : shV p' n W ∧ lexl p p' n ∧ ∀ q : Int → Int, shV q n W → lexl p q n → ¬ lexl q p' n := by
  obtain ⟨h1, h2, h3, h4, h5, h6⟩ := h
  have a0 := h2 1; have a1 := h2 2; have a2 := h2 3
  have c0 := h3 0; have c1 := h3 1
  have e1 := h5 1; have e2 := h5 2
  rcases (show n = 2 ∨ n = 3 ∨ n = 4 by omega) with rfl | rfl | rfl
  · obtain rfl : m = 1 := by omega
    unfold shV at *
    simp only [lexl, eqv, smV, Nat.reduceSub, Nat.reduceAdd, false_or, true_and] at *
    have p0 := hp.1 0
    have p1 := hp.1 1
    refine ⟨⟨fun j hj => ?_, by omega⟩, by omega, fun q hq => ?_⟩
    · rcases (show j = 0 ∨ j = 1 by omega) with rfl | rfl <;> omega
    · have q0 := hq.1 0; have q1 := hq.1 1
      omega
  · rcases (show m = 1 ∨ m = 2 by omega) with rfl | rfl
    · unfold shV at *
      simp only [lexl, eqv, smV, Nat.reduceSub, Nat.reduceAdd, false_or, true_and] at *
      have p0 := hp.1 0
      have p1 := hp.1 1
      have p2 := hp.1 2
      refine ⟨⟨fun j hj => ?_, by omega⟩, by omega, fun q hq => ?_⟩
      · rcases (show j = 0 ∨ j = 1 ∨ j = 2 by omega) with rfl | rfl | rfl <;> omega
      · have q0 := hq.1 0; have q1 := hq.1 1; have q2 := hq.1 2
        omega
    · unfold shV at *
      simp only [lexl, eqv, smV, Nat.reduceSub, Nat.reduceAdd, false_or, true_and] at *
      have p0 := hp.1 0
      have p1 := hp.1 1
      have p2 := hp.1 2
      refine ⟨⟨fun j hj => ?_, by omega⟩, by omega, fun q hq => ?_⟩
      · rcases (show j = 0 ∨ j = 1 ∨ j = 2 by omega) with rfl | rfl | rfl <;> omega
      · have q0 := hq.1 0; have q1 := hq.1 1; have q2 := hq.1 2
        omega
  · rcases (show m = 1 ∨ m = 2 ∨ m = 3 by omega) with rfl | rfl | rfl
    · unfold shV at *
      simp only [lexl, eqv, smV, Nat.reduceSub, Nat.reduceAdd, false_or, true_and] at *
      have p0 := hp.1 0
      have p1 := hp.1 1
      have p2 := hp.1 2
      have p3 := hp.1 3
      refine ⟨⟨fun j hj => ?_, by omega⟩, by omega, fun q hq => ?_⟩
      · rcases (show j = 0 ∨ j = 1 ∨ j = 2 ∨ j = 3 by omega) with rfl | rfl | rfl | rfl <;> omega
      · have q0 := hq.1 0; have q1 := hq.1 1; have q2 := hq.1 2; have q3 := hq.1 3
        omega
    · unfold shV at *
      simp only [lexl, eqv, smV, Nat.reduceSub, Nat.reduceAdd, false_or, true_and] at *
      have p0 := hp.1 0
      have p1 := hp.1 1
      have p2 := hp.1 2
      have p3 := hp.1 3
      refine ⟨⟨fun j hj => ?_, by omega⟩, by omega, fun q hq => ?_⟩
      · rcases (show j = 0 ∨ j = 1 ∨ j = 2 ∨ j = 3 by omega) with rfl | rfl | rfl | rfl <;> omega
      · have q0 := hq.1 0; have q1 := hq.1 1; have q2 := hq.1 2; have q3 := hq.1 3
        omega
    · unfold shV at *
      simp only [lexl, eqv, smV, Nat.reduceSub, Nat.reduceAdd, false_or, true_and] at *
      have p0 := hp.1 0
      have p1 := hp.1 1
      have p2 := hp.1 2
      have p3 := hp.1 3
      refine ⟨⟨fun j hj => ?_, by omega⟩, by omega, fun q hq => ?_⟩
      · rcases (show j = 0 ∨ j = 1 ∨ j = 2 ∨ j = 3 by omega) with rfl | rfl | rfl | rfl <;> omega
      · have q0 := hq.1 0; have q1 := hq.1 1; have q2 := hq.1 2; have q3 := hq.1 3
        omega
theorem nxV_end {p : Int → Int} {n : Nat} {W : Int} (hn : 1 ≤ n ∧ n ≤ 4) (h : ∀ i : Nat, 1 ≤ i → i < n → p i = 0) (hp : shV p n W) : ∀ q : Int → Int, shV q n W → ¬ lexl p q n := by
  have a0 := h 1; have a1 := h 2; have a2 := h 3
  rcases (show n = 1 ∨ n = 2 ∨ n = 3 ∨ n = 4 by omega) with rfl | rfl | rfl | rfl
  · unfold shV at *
    simp only [lexl, eqv, smV, Nat.reduceSub, Nat.reduceAdd, false_or, true_and] at *
    intro q hq
    have p0 := hp.1 0
    have q0 := hq.1 0
    omega
  · unfold shV at *
    simp only [lexl, eqv, smV, Nat.reduceSub, Nat.reduceAdd, false_or, true_and] at *
    intro q hq
    have p0 := hp.1 0
    have q0 := hq.1 0
    have p1 := hp.1 1
    have q1 := hq.1 1
    omega
  · unfold shV at *
    simp only [lexl, eqv, smV, Nat.reduceSub, Nat.reduceAdd, false_or, true_and] at *
    intro q hq
    have p0 := hp.1 0
    have q0 := hq.1 0
    have p1 := hp.1 1
    have q1 := hq.1 1
    have p2 := hp.1 2
    have q2 := hq.1 2
    omega
  · unfold shV at *
    simp only [lexl, eqv, smV, Nat.reduceSub, Nat.reduceAdd, false_or, true_and] at *
    intro q hq
    have p0 := hp.1 0
    have q0 := hq.1 0
    have p1 := hp.1 1
    have q1 := hq.1 1
    have p2 := hp.1 2
    have q2 := hq.1 2
    have p3 := hp.1 3
    have q3 := hq.1 3
    omega
set_option maxHeartbeats 2000000 in
theorem r_sharesAnew {d n : Nat} {M : mM} {K : mQ} {p : Int → Int} {W z : Int} (hn : 1 ≤ n ∧ n ≤ 4) (hp : shV p n W) (hW : W ≤ 60) (hM : ∀ j : Nat, j < n → M 134 j = p j) (hY : ∀ M' p' m, fr [134] M M' → (1 ≤ m ∧ m < n) → nxV p p' n m → (∀ j : Nat, j < n → M' 134 j = p' j) → K (some (vi 1)) M') (hN : ∀ M', fr [134] M M' → (∀ i : Nat, 1 ≤ i → i < n → p i = 0) → K (some (vi 0)) M') : mCall (d + 1) 253 [vr 97, vi n, vi z] M K := by
  have hR := shV_R hp
  simp (disch := first | decide | omega) only [b253, w253_0, w253_1, w253_2, w253_3, w253_5, w253_8, w253_9, w253_12, w253_13, w253_14, w253_15, w253_16, w253_19, w253_20, w253_23, w253_24, w253_25, w253_26, w253_27, w253_28, w253_29, w253_30, w253_33, w253_34, w253_35, w253_36, w253_37, w253_38, w253_39, w253_40, w253_41, w253_42, w253_43, w253_44, w253_47, w253_48, w253_49, w253_50, w253_51, w253_52, w253_53, w253_56, w253_57, w253_58, w253_59, w253_60, w253_61, w253_64, w253_65, w253_66, w253_67, w253_70, w253_73, w253_74, tc97, tr97_0, tr97_1, tr97_2, tr97_6, tr97_7, tr97_8, tr97_9, tr97_10, tr97_11, tr97_12, tr97_22, tr97_23, tr97_25, tr97_26, tr97_30, tr97_31, tr97_32, tr97_33, tr97_35, tr97_36, tr97_37, tr97_38, tr97_40, tr97_41, tr97_42, tr97_43, tr97_44, tr97_45, tr97_46, tr97_47, tr97_48, tr97_49, tr97_50, tr97_51, tr97_52, tr97_53, tr97_54, tr97_55, tr97_56, tr97_57, tr97_58, tr97_59, tr97_60, tr97_61, ta98, tn98, ta99, tn99, ta100, tn100, ta101, tn101, ta102, tn102, ta103, tn103, ta104, tn104, ta105, tn105, ta106, tn106, ta107, tn107, ta108, tn108, ta109, tn109, ta110, tn110, ta111, tn111, ta112, tn112, ta113, tn113, ta114, tn114, ta115, tn115, ta116, tn116, ta117, tn117, ta118, tn118, ta119, tn119, ta120, tn120, ta121, tn121, ta122, tn122, ta123, tn123, ta124, tn124, ta125, tn125, ta126, tn126, ta127, tn127, ta128, tn128, ta129, tn129, ta130, tn130, ta131, tn131, ta132, tn132, ta133, tn133, ta134, tn134, ta135, tn135, ta136, tn136, ta137, tn137, ta138, tn138, ta139, tn139, ta140, tn140, ta141, tn141, xLoad_i, xLoad_l, xLoad_r, xInc_s, xBr_t, xBr_f, xNz_s, xGf_s, xPf_s, xPz_s, xLd_2, xLd_7, xLd_10, xLdb_3, xLdb_5, xLdb_9, xLdl_4, xLdr_6, xSt_2, xStl_4, xStb_3, xStb_5, xLen_s, xLen_10, xCpy_s, xIv_s, xMx_s, mCont_s, mCont_n, w32_s, w64_s, upC_e, upC_n, upC_u, upC_c, mEn_c, mEn_n, mcw_i, mcw_l, mcw_r, mcat_n, mcat_i, mcat_l, mcat_r, xlong_i, xlong_l, xlong_r, xlong_n, s1_at, s2_at, ↓reduceIte, reduceCtorEq, and_self, true_and, and_true, false_and, and_false, Bool.false_eq_true, ne_eq, not_true_eq_false, not_false_eq_true, or_true, true_or, or_false, false_or, or_self, Int.tmod_eq_emod_of_nonneg, Int.tdiv_eq_ediv_of_nonneg, Classical.not_not, xSw, rOK, b2i_ok, b2i_0, b2i_1, Nat.reduceAdd, Nat.reduceSub, Nat.reduceMul, Nat.reduceEqDiff, Nat.reduceLeDiff, Nat.reduceLT, Int.reduceAdd, Int.reduceSub, Int.reduceMul, Int.reduceNeg, Int.reduceEq, Int.reduceNe, Int.reduceLT, Int.reduceLE, Int.reduceToNat, Int.reduceTDiv, Int.reduceTMod, b2i_em]
  refine loopL (P := fun j lv M' => fr [134] M M' ∧ (∀ i : Nat, i + j + 1 < n → M' 134 i = p i) ∧ (∀ i : Nat, n ≤ i + j + 1 → i + 1 < n → M' 134 i = 0) ∧ M' 134 ((n - 1 : Nat) : Int) = p ((n - 1 - j : Nat) : Int) ∧ (∀ i : Nat, n - 1 - j < i → i < n → p i = 0) ∧ lv 0 = some (vr 97) ∧ lv 1 = some (vi n) ∧ lv 3 = some (vi ((n : Int) - 2 - j))) (G := fun lv M' => rn d 253 K 4 lv [] M') (n - 1) 0 (Nat.zero_le _) _ _ ⟨fr_refl, fun i hi => hM i (by omega), fun i h1 h2 => absurd h1 (by omega), hM (n - 1) (by omega), fun i h1 h2 => absurd h1 (by omega), ?_, ?_, ?_⟩ (fun j hj ih lv M' hI => ?_) (fun lv M' hI => ?_)
  any_goals (simp [s1_at, s2_at, mEn_c, mcw_r, mcw_i, mcw_l, xlong_i, xlong_r, xlong_l, xlong_n, Int.sub_zero]; done)
  · obtain ⟨hf, h1, h2, h3, h4, g0, g1, g3⟩ := hI
    obtain ⟨k, hk⟩ : ∃ k, n - 2 - j = k := ⟨_, rfl⟩
    have ek : (n : Int) - 2 - j = (k : Nat) := by omega
    have em : n - 1 - j = k + 1 := by omega
    have en : (n : Int) - 1 = ((n - 1 : Nat) : Int) := by omega
    have e5 : (k : Int) + -1 = (n : Int) - 2 - ((j + 1 : Nat) : Int) := by omega
    have r1 := hR (k + 1) (by omega)
    have r2 := hR k (by omega)
    have m1 := h1 k (by omega)
    rw [em] at h3
    rw [ek] at g3
    rw [w253_4]
    by_cases c : 0 < p ((k + 1 : Nat) : Int)
    · have hr := fun M'' (f : fr [134] M M'') p' h => hY M'' p' (k + 1) f (by omega) h
      have e7 : mU (M' 134) (k : Int) (p (k : Int) + 1) ((n - 1 : Nat) : Int) = p ((k + 1 : Nat) : Int) := by rw [mU_n (by omega), h3]
      simp (disch := first | decide | omega) only [b253, w253_0, w253_1, w253_2, w253_3, w253_5, w253_8, w253_9, w253_12, w253_13, w253_14, w253_15, w253_16, w253_19, w253_20, w253_23, w253_24, w253_25, w253_26, w253_27, w253_28, w253_29, w253_30, w253_33, w253_34, w253_35, w253_36, w253_37, w253_38, w253_39, w253_40, w253_41, w253_42, w253_43, w253_44, w253_47, w253_48, w253_49, w253_50, w253_51, w253_52, w253_53, w253_56, w253_57, w253_58, w253_59, w253_60, w253_61, w253_64, w253_65, w253_66, w253_67, w253_70, w253_73, w253_74, tc97, tr97_0, tr97_1, tr97_2, tr97_6, tr97_7, tr97_8, tr97_9, tr97_10, tr97_11, tr97_12, tr97_22, tr97_23, tr97_25, tr97_26, tr97_30, tr97_31, tr97_32, tr97_33, tr97_35, tr97_36, tr97_37, tr97_38, tr97_40, tr97_41, tr97_42, tr97_43, tr97_44, tr97_45, tr97_46, tr97_47, tr97_48, tr97_49, tr97_50, tr97_51, tr97_52, tr97_53, tr97_54, tr97_55, tr97_56, tr97_57, tr97_58, tr97_59, tr97_60, tr97_61, ta98, tn98, ta99, tn99, ta100, tn100, ta101, tn101, ta102, tn102, ta103, tn103, ta104, tn104, ta105, tn105, ta106, tn106, ta107, tn107, ta108, tn108, ta109, tn109, ta110, tn110, ta111, tn111, ta112, tn112, ta113, tn113, ta114, tn114, ta115, tn115, ta116, tn116, ta117, tn117, ta118, tn118, ta119, tn119, ta120, tn120, ta121, tn121, ta122, tn122, ta123, tn123, ta124, tn124, ta125, tn125, ta126, tn126, ta127, tn127, ta128, tn128, ta129, tn129, ta130, tn130, ta131, tn131, ta132, tn132, ta133, tn133, ta134, tn134, ta135, tn135, ta136, tn136, ta137, tn137, ta138, tn138, ta139, tn139, ta140, tn140, ta141, tn141, xLoad_i, xLoad_l, xLoad_r, xInc_s, xBr_t, xBr_f, xNz_s, xGf_s, xPf_s, xPz_s, xLd_2, xLd_7, xLd_10, xLdb_3, xLdb_5, xLdb_9, xLdl_4, xLdr_6, xSt_2, xStl_4, xStb_3, xStb_5, xLen_s, xLen_10, xCpy_s, xIv_s, xMx_s, mCont_s, mCont_n, w32_s, w64_s, upC_e, upC_n, upC_u, upC_c, mEn_c, mEn_n, mcw_i, mcw_l, mcw_r, mcat_n, mcat_i, mcat_l, mcat_r, xlong_i, xlong_l, xlong_r, xlong_n, s1_at, s2_at, ↓reduceIte, reduceCtorEq, and_self, true_and, and_true, false_and, and_false, Bool.false_eq_true, ne_eq, not_true_eq_false, not_false_eq_true, or_true, true_or, or_false, false_or, or_self, Int.tmod_eq_emod_of_nonneg, Int.tdiv_eq_ediv_of_nonneg, Classical.not_not, xSw, rOK, b2i_ok, b2i_0, b2i_1, Nat.reduceAdd, Nat.reduceSub, Nat.reduceMul, Nat.reduceEqDiff, Nat.reduceLeDiff, Nat.reduceLT, Int.reduceAdd, Int.reduceSub, Int.reduceMul, Int.reduceNeg, Int.reduceEq, Int.reduceNe, Int.reduceLT, Int.reduceLE, Int.reduceToNat, Int.reduceTDiv, Int.reduceTMod, b2i_em, g0, g1, g3, en, h3, m1, e7, mU_e]
      refine hr _ ?_ (fun i => if i < (k : Int) then p i else if i = (k : Int) then p k + 1 else if i = ((n - 1 : Nat) : Int) then p ((k + 1 : Nat) : Int) - 1 else 0) ⟨c, fun i hi1 hi2 => h4 i (by omega) hi2, fun i hi => ?_, ?_, fun i hi1 hi2 => ?_, ?_⟩ (fun i hi => ?_)
      · exact fun a ha => by rw [upC_n (by intro e; exact ha (by rw [e]; exact List.mem_singleton.mpr rfl)), hf a ha]
      · dsimp only
        rw [if_pos (by omega)]
      · dsimp only
        rw [if_neg (by omega), if_pos (by omega)]
        rfl
      · dsimp only
        rw [if_neg (by omega), if_neg (by omega), if_neg (by omega)]
      · dsimp only
        rw [if_neg (by omega), if_neg (by omega), if_pos rfl]
      · rw [upC_e]
        by_cases i1 : (i : Int) = ((n - 1 : Nat) : Int)
        · rw [i1, mU_e, if_neg (by omega), if_neg (by omega), if_pos rfl]
        · rw [mU_n i1]
          by_cases i2 : (i : Int) = k
          · rw [i2, mU_e, if_neg (by omega), if_pos rfl]
          · rw [mU_n i2]
            by_cases i3 : (i : Int) < k
            · rw [if_pos i3]; exact h1 i (by omega)
            · rw [if_neg i3, if_neg i2, if_neg i1]
              exact h2 i (by omega) (by omega)
    · have hz : p ((k + 1 : Nat) : Int) = 0 := by omega
      rw [hz] at h3
      simp (disch := first | decide | omega) only [b253, w253_0, w253_1, w253_2, w253_3, w253_5, w253_8, w253_9, w253_12, w253_13, w253_14, w253_15, w253_16, w253_19, w253_20, w253_23, w253_24, w253_25, w253_26, w253_27, w253_28, w253_29, w253_30, w253_33, w253_34, w253_35, w253_36, w253_37, w253_38, w253_39, w253_40, w253_41, w253_42, w253_43, w253_44, w253_47, w253_48, w253_49, w253_50, w253_51, w253_52, w253_53, w253_56, w253_57, w253_58, w253_59, w253_60, w253_61, w253_64, w253_65, w253_66, w253_67, w253_70, w253_73, w253_74, tc97, tr97_0, tr97_1, tr97_2, tr97_6, tr97_7, tr97_8, tr97_9, tr97_10, tr97_11, tr97_12, tr97_22, tr97_23, tr97_25, tr97_26, tr97_30, tr97_31, tr97_32, tr97_33, tr97_35, tr97_36, tr97_37, tr97_38, tr97_40, tr97_41, tr97_42, tr97_43, tr97_44, tr97_45, tr97_46, tr97_47, tr97_48, tr97_49, tr97_50, tr97_51, tr97_52, tr97_53, tr97_54, tr97_55, tr97_56, tr97_57, tr97_58, tr97_59, tr97_60, tr97_61, ta98, tn98, ta99, tn99, ta100, tn100, ta101, tn101, ta102, tn102, ta103, tn103, ta104, tn104, ta105, tn105, ta106, tn106, ta107, tn107, ta108, tn108, ta109, tn109, ta110, tn110, ta111, tn111, ta112, tn112, ta113, tn113, ta114, tn114, ta115, tn115, ta116, tn116, ta117, tn117, ta118, tn118, ta119, tn119, ta120, tn120, ta121, tn121, ta122, tn122, ta123, tn123, ta124, tn124, ta125, tn125, ta126, tn126, ta127, tn127, ta128, tn128, ta129, tn129, ta130, tn130, ta131, tn131, ta132, tn132, ta133, tn133, ta134, tn134, ta135, tn135, ta136, tn136, ta137, tn137, ta138, tn138, ta139, tn139, ta140, tn140, ta141, tn141, xLoad_i, xLoad_l, xLoad_r, xInc_s, xBr_t, xBr_f, xNz_s, xGf_s, xPf_s, xPz_s, xLd_2, xLd_7, xLd_10, xLdb_3, xLdb_5, xLdb_9, xLdl_4, xLdr_6, xSt_2, xStl_4, xStb_3, xStb_5, xLen_s, xLen_10, xCpy_s, xIv_s, xMx_s, mCont_s, mCont_n, w32_s, w64_s, upC_e, upC_n, upC_u, upC_c, mEn_c, mEn_n, mcw_i, mcw_l, mcw_r, mcat_n, mcat_i, mcat_l, mcat_r, xlong_i, xlong_l, xlong_r, xlong_n, s1_at, s2_at, ↓reduceIte, reduceCtorEq, and_self, true_and, and_true, false_and, and_false, Bool.false_eq_true, ne_eq, not_true_eq_false, not_false_eq_true, or_true, true_or, or_false, false_or, or_self, Int.tmod_eq_emod_of_nonneg, Int.tdiv_eq_ediv_of_nonneg, Classical.not_not, xSw, rOK, b2i_ok, b2i_0, b2i_1, Nat.reduceAdd, Nat.reduceSub, Nat.reduceMul, Nat.reduceEqDiff, Nat.reduceLeDiff, Nat.reduceLT, Int.reduceAdd, Int.reduceSub, Int.reduceMul, Int.reduceNeg, Int.reduceEq, Int.reduceNe, Int.reduceLT, Int.reduceLE, Int.reduceToNat, Int.reduceTDiv, Int.reduceTMod, b2i_em, g0, g1, g3, en, h3, m1, mU_e, Int.zero_add]
      refine ih _ _ ⟨fun a ha => by rw [upC_n (by intro e; exact ha (by rw [e]; exact List.mem_singleton.mpr rfl)), hf a ha], fun i hi => ?_, fun i hi1 hi2 => ?_, ?_, fun i hi1 hi2 => ?_, ?_, ?_, ?_⟩
      any_goals (simp [s1_at, s2_at, mEn_c, mcw_r, mcw_i, mcw_l, xlong_i, xlong_r, xlong_l, xlong_n, g0, g1, g3, e5]; done)
      · rw [upC_e, mU_n (by omega), mU_n (by omega)]
        exact h1 i (by omega)
      · rw [upC_e]
        by_cases i2 : (i : Int) = k
        · rw [i2, mU_e]
        · rw [mU_n i2, mU_n (by omega)]
          exact h2 i (by omega) hi2
      · rw [upC_e, mU_n (by omega), mU_e, show n - 1 - (j + 1) = k by omega]
      · by_cases i2 : i = k + 1
        · rw [i2]; exact hz
        · exact h4 i (by omega) hi2
  · obtain ⟨hf, h1, h2, h3, h4, g0, g1, g3⟩ := hI
    have e5 : (n : Int) - 2 - ((n - 1 : Nat) : Int) = -1 := by omega
    rw [e5] at g3
    have hr := hN M' hf (fun i hi1 hi2 => h4 i (by omega) hi2)
    rw [w253_4]
    simp (disch := first | decide | omega) only [b253, w253_0, w253_1, w253_2, w253_3, w253_5, w253_8, w253_9, w253_12, w253_13, w253_14, w253_15, w253_16, w253_19, w253_20, w253_23, w253_24, w253_25, w253_26, w253_27, w253_28, w253_29, w253_30, w253_33, w253_34, w253_35, w253_36, w253_37, w253_38, w253_39, w253_40, w253_41, w253_42, w253_43, w253_44, w253_47, w253_48, w253_49, w253_50, w253_51, w253_52, w253_53, w253_56, w253_57, w253_58, w253_59, w253_60, w253_61, w253_64, w253_65, w253_66, w253_67, w253_70, w253_73, w253_74, tc97, tr97_0, tr97_1, tr97_2, tr97_6, tr97_7, tr97_8, tr97_9, tr97_10, tr97_11, tr97_12, tr97_22, tr97_23, tr97_25, tr97_26, tr97_30, tr97_31, tr97_32, tr97_33, tr97_35, tr97_36, tr97_37, tr97_38, tr97_40, tr97_41, tr97_42, tr97_43, tr97_44, tr97_45, tr97_46, tr97_47, tr97_48, tr97_49, tr97_50, tr97_51, tr97_52, tr97_53, tr97_54, tr97_55, tr97_56, tr97_57, tr97_58, tr97_59, tr97_60, tr97_61, ta98, tn98, ta99, tn99, ta100, tn100, ta101, tn101, ta102, tn102, ta103, tn103, ta104, tn104, ta105, tn105, ta106, tn106, ta107, tn107, ta108, tn108, ta109, tn109, ta110, tn110, ta111, tn111, ta112, tn112, ta113, tn113, ta114, tn114, ta115, tn115, ta116, tn116, ta117, tn117, ta118, tn118, ta119, tn119, ta120, tn120, ta121, tn121, ta122, tn122, ta123, tn123, ta124, tn124, ta125, tn125, ta126, tn126, ta127, tn127, ta128, tn128, ta129, tn129, ta130, tn130, ta131, tn131, ta132, tn132, ta133, tn133, ta134, tn134, ta135, tn135, ta136, tn136, ta137, tn137, ta138, tn138, ta139, tn139, ta140, tn140, ta141, tn141, xLoad_i, xLoad_l, xLoad_r, xInc_s, xBr_t, xBr_f, xNz_s, xGf_s, xPf_s, xPz_s, xLd_2, xLd_7, xLd_10, xLdb_3, xLdb_5, xLdb_9, xLdl_4, xLdr_6, xSt_2, xStl_4, xStb_3, xStb_5, xLen_s, xLen_10, xCpy_s, xIv_s, xMx_s, mCont_s, mCont_n, w32_s, w64_s, upC_e, upC_n, upC_u, upC_c, mEn_c, mEn_n, mcw_i, mcw_l, mcw_r, mcat_n, mcat_i, mcat_l, mcat_r, xlong_i, xlong_l, xlong_r, xlong_n, s1_at, s2_at, ↓reduceIte, reduceCtorEq, and_self, true_and, and_true, false_and, and_false, Bool.false_eq_true, ne_eq, not_true_eq_false, not_false_eq_true, or_true, true_or, or_false, false_or, or_self, Int.tmod_eq_emod_of_nonneg, Int.tdiv_eq_ediv_of_nonneg, Classical.not_not, xSw, rOK, b2i_ok, b2i_0, b2i_1, Nat.reduceAdd, Nat.reduceSub, Nat.reduceMul, Nat.reduceEqDiff, Nat.reduceLeDiff, Nat.reduceLT, Int.reduceAdd, Int.reduceSub, Int.reduceMul, Int.reduceNeg, Int.reduceEq, Int.reduceNe, Int.reduceLT, Int.reduceLE, Int.reduceToNat, Int.reduceTDiv, Int.reduceTMod, b2i_em, g0, g1, g3]
    exact hr
