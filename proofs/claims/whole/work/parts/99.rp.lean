/-! a plan: how all stands at an hour, as the reference has it -/
theorem mbr_at {s : Int} {l : Nat} (hb : iAnd (iShr s l) 1 = 1) : ∀ n, l < n → (mbr s l).length < (mbr s n).length ∧ (mbr s n).getD (mbr s l).length 0 = l
  | 0, h => by omega
  | n + 1, h => by
    rw [mbr_s]
    by_cases e : l = n
    · subst e
      rw [if_pos hb, List.length_append, List.length_singleton, getD_ar]
      exact ⟨by omega, rfl⟩
    · obtain ⟨h1, h2⟩ := mbr_at hb n (by omega)
      rw [List.length_append, getD_al h1]
      exact ⟨by omega, h2⟩
theorem mbr_idx {s : Int} {k : Nat} : ∀ n, k < (mbr s n).length → (mbr s ((mbr s n).getD k 0)).length = k
  | 0, h => by cases h
  | n + 1, h => by
    rw [mbr_s] at h ⊢
    by_cases c : iAnd (iShr s n) 1 = 1
    · rw [if_pos c] at h ⊢
      rw [List.length_append, List.length_singleton] at h
      by_cases e : k < (mbr s n).length
      · rw [getD_al e]
        exact mbr_idx n e
      · obtain rfl : k = (mbr s n).length := by omega
        rw [getD_ar]
    · rw [if_neg c, List.append_nil] at h ⊢
      exact mbr_idx n h
def mWp (A T at' : Int → Int) (h e k : Int) : Int := if e ≤ at' k then -1 else if h < at' k + A (10 + T k) then T k else 6
def mSp (A T at' : Int → Int) (h e k : Int) : Int := if e ≤ at' k then 0 else if h < at' k + A (10 + T k) then h - at' k else 0
def SXw (A T at' : Int → Int) (s h e : Int) (l : Nat) : Int := if (l : Int) < A 1 then (if iAnd (iShr s l) 1 = 1 then mWp A T at' h e (mbr s l).length else wh0 A h l) else A (107 + l)
def nSp (A : Int → Int) (h l : Int) : Int := if 0 ≤ A (107 + l) ∧ A (107 + l) < 6 then (if A (119 + l) + h < A (10 + A (107 + l)) then A (119 + l) + h else 0) else A (119 + l)
def SXs (A T at' : Int → Int) (s h e : Int) (l : Nat) : Int := if (l : Int) < A 1 then (if iAnd (iShr s l) 1 = 1 then mSp A T at' h e (mbr s l).length else nSp A h l) else A (119 + l)
/-- what is taken for granted of a plan -/
def PLn (A T at' : Int → Int) (s : Int) (L : List Nat) (n : Nat) : Prop := L = mbr s (A 1).toNat ∧ L.length = n ∧ n ≤ 4 ∧ chO A s 4 ∧ ∀ k : Nat, k < n → (0 ≤ T k ∧ T k < A 0 ∧ A (95 + T k) = 0) ∧ 0 ≤ at' k ∧ at' k ≤ 5
theorem PLn_k {A T at' : Int → Int} {s : Int} {L : List Nat} {n l : Nat} (hP : PLn A T at' s L n) (hl : (l : Int) < A 1) (hb : iAnd (iShr s l) 1 = 1) : (mbr s l).length < n ∧ L.getD (mbr s l).length 0 = l ∧ A (107 + l) = -1 := by
  obtain ⟨h1, h2, -, h3, -⟩ := hP
  have := mbr_at hb (A 1).toNat (by omega)
  rw [← h1, h2] at this
  exact ⟨this.1, this.2, h3.2.2 l (by omega) hb⟩
theorem SX_0 {A T at' : Int → Int} {s : Int} {L : List Nat} {n l : Nat} (hP : PLn A T at' s L n) (hw : WS A) (hd : WD A) (hl : l < 12) : SXw A T at' s 0 0 l = A (107 + l) ∧ SXs A T at' s 0 0 l = A (119 + l) := by
  have b1 := hw.2.1
  have q := hd.2.2.2.2 l hl
  unfold SXw SXs
  by_cases c : (l : Int) < A 1
  · rw [if_pos c, if_pos c]
    by_cases cb : iAnd (iShr s l) 1 = 1
    · obtain ⟨k1, k2, k3⟩ := PLn_k hP c cb
      have hk := (hP.2.2.2.2 _ k1).2
      have q6 := q.2.2.2.2.2.1 c (by omega)
      rw [if_pos cb, if_pos cb, mWp, mSp, if_pos hk.1, if_pos hk.1, k3, q6]
      exact ⟨rfl, rfl⟩
    · rw [if_neg cb, if_neg cb]
      unfold wh0 nSp
      by_cases co : 0 ≤ A (107 + l) ∧ A (107 + l) < 6
      · have q3 := q.2.2.1 c co.1 co.2
        rw [if_neg (by omega), if_pos co, if_pos (by omega)]
        omega
      · rw [if_neg (fun g => co g.1), if_neg co]
        exact ⟨rfl, rfl⟩
  · rw [if_neg c, if_neg c]
    exact ⟨rfl, rfl⟩
theorem goW_n {len : Int → Int} {w s : Int} (h : ¬ (0 ≤ w ∧ w < 6)) : goW len w s = w ∧ goS len w s = s := ⟨if_neg (fun g => h g.1), if_neg h⟩
theorem goW_p {len : Int → Int} {w s : Int} (h : 0 ≤ w ∧ w < 6) (e : s + 1 = len w) : goW len w s = 6 ∧ goS len w s = 0 := ⟨if_pos ⟨h, e⟩, by unfold goS; rw [if_pos h, if_pos e]⟩
theorem goW_q {len : Int → Int} {w s : Int} (h : 0 ≤ w ∧ w < 6) (e : ¬ s + 1 = len w) : goW len w s = w ∧ goS len w s = s + 1 := ⟨if_neg (fun g => e g.2), by unfold goS; rw [if_pos h, if_neg e]⟩
theorem mW_a {A T at' : Int → Int} {h e k : Int} (c : e ≤ at' k) : mWp A T at' h e k = -1 ∧ mSp A T at' h e k = 0 := ⟨if_pos c, if_pos c⟩
theorem mW_b {A T at' : Int → Int} {h e k : Int} (c : ¬ e ≤ at' k) (c2 : h < at' k + A (10 + T k)) : mWp A T at' h e k = T k ∧ mSp A T at' h e k = h - at' k := ⟨by unfold mWp; rw [if_neg c, if_pos c2], by unfold mSp; rw [if_neg c, if_pos c2]⟩
theorem mW_c {A T at' : Int → Int} {h e k : Int} (c : ¬ e ≤ at' k) (c2 : ¬ h < at' k + A (10 + T k)) : mWp A T at' h e k = 6 ∧ mSp A T at' h e k = 0 := ⟨by unfold mWp; rw [if_neg c, if_neg c2], by unfold mSp; rw [if_neg c, if_neg c2]⟩
theorem nW_a {A : Int → Int} {h l : Int} (c : ¬ (0 ≤ A (107 + l) ∧ A (107 + l) < 6)) : wh0 A h l = A (107 + l) ∧ nSp A h l = A (119 + l) := ⟨if_neg (fun g => c g.1), if_neg c⟩
theorem nW_b {A : Int → Int} {h l : Int} (c : 0 ≤ A (107 + l) ∧ A (107 + l) < 6) (c2 : A (119 + l) + h < A (10 + A (107 + l))) : wh0 A h l = A (107 + l) ∧ nSp A h l = A (119 + l) + h := ⟨if_neg (fun g => by omega), by unfold nSp; rw [if_pos c, if_pos c2]⟩
theorem nW_c {A : Int → Int} {h l : Int} (c : 0 ≤ A (107 + l) ∧ A (107 + l) < 6) (c2 : ¬ A (119 + l) + h < A (10 + A (107 + l))) : wh0 A h l = 6 ∧ nSp A h l = 0 := ⟨if_pos ⟨c, by omega⟩, by unfold nSp; rw [if_pos c, if_neg c2]⟩
theorem SX_step {A T at' : Int → Int} {s : Int} {L : List Nat} {n l : Nat} {h : Nat} (hP : PLn A T at' s L n) (hw : WS A) (c : (l : Int) < A 1) : goW (fun w => A (10 + w)) (SXw A T at' s h (h + 1) l) (SXs A T at' s h (h + 1) l) = SXw A T at' s (h + 1) (h + 1) l ∧ goS (fun w => A (10 + w)) (SXw A T at' s h (h + 1) l) (SXs A T at' s h (h + 1) l) = SXs A T at' s (h + 1) (h + 1) l := by
  have b0 := hw.1
  unfold SXw SXs
  rw [if_pos c, if_pos c, if_pos c, if_pos c]
  by_cases cb : iAnd (iShr s l) 1 = 1
  · obtain ⟨k1, k2, k3⟩ := PLn_k hP c cb
    have hk := hP.2.2.2.2 _ k1
    rw [if_pos cb, if_pos cb, if_pos cb, if_pos cb]
    generalize ((mbr s l).length : Int) = k at hk ⊢
    by_cases c1 : (h : Int) + 1 ≤ at' k
    · obtain ⟨e1, e2⟩ := mW_a (A := A) (T := T) (h := h) c1
      obtain ⟨e3, e4⟩ := mW_a (A := A) (T := T) (h := (h : Int) + 1) c1
      rw [e1, e2, e3, e4]
      exact goW_n (by omega)
    · by_cases c2 : (h : Int) < at' k + A (10 + T k)
      · obtain ⟨e1, e2⟩ := mW_b c1 c2
        rw [e1, e2]
        by_cases c3 : (h : Int) + 1 < at' k + A (10 + T k)
        · obtain ⟨e3, e4⟩ := mW_b c1 c3
          rw [e3, e4]
          obtain ⟨e5, e6⟩ := goW_q (len := fun w => A (10 + w)) (w := T k) (s := (h : Int) - at' k) (by omega) (by show ¬ (h : Int) - at' k + 1 = A (10 + T k); omega)
          exact ⟨e5, by rw [e6]; omega⟩
        · obtain ⟨e3, e4⟩ := mW_c c1 c3
          rw [e3, e4]
          exact goW_p (len := fun w => A (10 + w)) (by omega) (by show (h : Int) - at' k + 1 = A (10 + T k); omega)
      · obtain ⟨e1, e2⟩ := mW_c c1 c2
        obtain ⟨e3, e4⟩ := mW_c (A := A) (T := T) (h := (h : Int) + 1) c1 (by omega)
        rw [e1, e2, e3, e4]
        exact goW_n (by omega)
  · rw [if_neg cb, if_neg cb, if_neg cb, if_neg cb]
    by_cases co : 0 ≤ A (107 + (l : Int)) ∧ A (107 + (l : Int)) < 6
    · by_cases c2 : A (119 + (l : Int)) + h < A (10 + A (107 + (l : Int)))
      · obtain ⟨e1, e2⟩ := nW_b co c2
        rw [e1, e2]
        by_cases c3 : A (119 + (l : Int)) + ((h : Int) + 1) < A (10 + A (107 + (l : Int)))
        · obtain ⟨e3, e4⟩ := nW_b co c3
          rw [e3, e4]
          obtain ⟨e5, e6⟩ := goW_q (len := fun w => A (10 + w)) (w := A (107 + (l : Int))) (s := A (119 + (l : Int)) + h) co (by show ¬ A (119 + (l : Int)) + h + 1 = A (10 + A (107 + (l : Int))); omega)
          exact ⟨e5, by rw [e6]; omega⟩
        · obtain ⟨e3, e4⟩ := nW_c co c3
          rw [e3, e4]
          exact goW_p (len := fun w => A (10 + w)) co (by show A (119 + (l : Int)) + h + 1 = A (10 + A (107 + (l : Int))); omega)
      · obtain ⟨e1, e2⟩ := nW_c co c2
        obtain ⟨e3, e4⟩ := nW_c (h := (h : Int) + 1) co (by omega)
        rw [e1, e2, e3, e4]
        exact goW_n (by omega)
    · obtain ⟨e1, e2⟩ := nW_a (h := h) co
      obtain ⟨e3, e4⟩ := nW_a (h := (h : Int) + 1) co
      rw [e1, e2, e3, e4]
      exact goW_n co
/-- the row of an hour -/
def RH (A T at' : Int → Int) (s : Int) (h : Nat) : Int → Int := fun i => if 107 ≤ i ∧ i < 119 then SXw A T at' s h (h + 1) (i - 107).toNat else if 119 ≤ i ∧ i < 131 then SXs A T at' s h (h + 1) (i - 119).toNat else AH A h i
theorem RH_n {A T at' : Int → Int} {s : Int} {h : Nat} {i : Int} (hi : i < 107) : RH A T at' s h i = AH A h i := by
  unfold RH
  rw [if_neg (by omega), if_neg (by omega)]
theorem RH_lo {A T at' : Int → Int} {s : Int} {h : Nat} {i : Int} (hi : i < 107) (h2 : i ≠ 81) : RH A T at' s h i = A i := by
  rw [RH_n hi, AH_n h2]
theorem RH_w {A T at' : Int → Int} {s : Int} {h l : Nat} (hl : l < 12) : RH A T at' s h (107 + l) = SXw A T at' s h (h + 1) l := by
  unfold RH
  rw [if_pos (by omega), show ((107 : Int) + l - 107).toNat = l by omega]
theorem RH_s {A T at' : Int → Int} {s : Int} {h l : Nat} (hl : l < 12) : RH A T at' s h (119 + l) = SXs A T at' s h (h + 1) l := by
  unfold RH
  rw [if_neg (by omega), if_pos (by omega), show ((119 : Int) + l - 119).toNat = l by omega]
theorem RH_81 {A T at' : Int → Int} {s : Int} {h : Nat} : RH A T at' s h 81 = A 81 + h := by
  rw [RH_n (by decide)]
  exact mU_e
theorem RH_WS {A T at' : Int → Int} {s : Int} {h : Nat} (k4 : WS A) : WS (RH A T at' s h) := by
  have lo : ∀ i, i < 80 → RH A T at' s h i = A i := fun i hi => RH_lo (by omega) (by omega)
  unfold WS at k4 ⊢
  rw [lo 0 (by decide), lo 1 (by decide)]
  refine ⟨k4.1, k4.2.1, fun b hb => ?_, fun l hl => ?_, fun p q hp hq => ?_⟩
  · rw [lo (10 + b) (by omega), lo (16 + b) (by omega)]; exact k4.2.2.1 b hb
  · rw [lo (22 + 3 * l) (by omega), lo (23 + 3 * l) (by omega), lo (24 + 3 * l) (by omega)]; exact k4.2.2.2.1 l hl
  · rw [lo (16 + p) (by omega), lo (16 + q) (by omega)]; exact k4.2.2.2.2 p q hp hq
theorem RH_WD {A T at' : Int → Int} {s : Int} {L : List Nat} {n h : Nat} (hP : PLn A T at' s L n) (hw : WS A) (hd : WD A) (h81 : A 81 ≤ 999) (hh : h ≤ 14) : WD (RH A T at' s h) := by
  obtain ⟨w1, w2, w3, w4, w5⟩ := hd
  have b0 := hw.1
  refine ⟨by rw [RH_lo (by decide) (by decide)]; exact w1, by rw [RH_81]; omega, by rw [RH_lo (by decide) (by decide)]; exact w3, fun b hb => ?_, fun l hl => ?_⟩
  · rw [RH_lo (by omega) (by omega), RH_lo (i := 89 + b) (by omega) (by omega), RH_lo (i := 95 + b) (by omega) (by omega), RH_lo (i := 101 + b) (by omega) (by omega), RH_lo (i := 0) (by decide) (by decide)]
    exact w4 b hb
  · have q := w5 l hl
    rw [RH_w hl, RH_s hl, RH_lo (i := 0) (by decide) (by decide), RH_lo (i := 1) (by decide) (by decide)]
    unfold SXw SXs
    by_cases c : (l : Int) < A 1
    · rw [if_pos c, if_pos c]
      by_cases cb : iAnd (iShr s l) 1 = 1
      · obtain ⟨k1, k2, k3⟩ := PLn_k hP c cb
        have hk := hP.2.2.2.2 _ k1
        rw [if_pos cb, if_pos cb]
        generalize ((mbr s l).length : Int) = k at hk ⊢
        by_cases c1 : (h : Int) + 1 ≤ at' k
        · obtain ⟨e1, e2⟩ := mW_a (A := A) (T := T) (h := h) c1
          rw [e1, e2]
          exact ⟨by omega, by omega, fun _ g => by omega, by omega, by omega, fun _ _ => rfl, fun _ => rfl⟩
        · by_cases c2 : (h : Int) < at' k + A (10 + T k)
          · obtain ⟨e1, e2⟩ := mW_b c1 c2
            obtain ⟨t, ht⟩ := Int.eq_ofNat_of_zero_le hk.1.1
            have ws := hw.2.2.1 t (by omega)
            rw [e1, e2, RH_lo (by omega) (by omega)]
            rw [ht] at hk c2 ⊢
            exact ⟨by omega, by omega, fun _ _ _ => by omega, by omega, by omega, fun _ _ => by omega, fun _ => by omega⟩
          · obtain ⟨e1, e2⟩ := mW_c c1 c2
            rw [e1, e2]
            exact ⟨by omega, by omega, fun _ _ g => by omega, by omega, by omega, fun _ _ => rfl, fun _ => rfl⟩
      · rw [if_neg cb, if_neg cb]
        by_cases co : 0 ≤ A (107 + (l : Int)) ∧ A (107 + (l : Int)) < 6
        · have q3 := q.2.2.1 c co.1 co.2
          obtain ⟨t, ht⟩ := Int.eq_ofNat_of_zero_le co.1
          have ws := hw.2.2.1 t (by omega)
          by_cases c2 : A (119 + (l : Int)) + h < A (10 + A (107 + (l : Int)))
          · obtain ⟨e1, e2⟩ := nW_b co c2
            rw [e1, e2, RH_lo (by omega) (by omega)]
            rw [ht] at c2 q3 ⊢
            exact ⟨by omega, by omega, fun _ _ _ => by omega, by omega, by omega, fun _ _ => by omega, fun _ => by omega⟩
          · obtain ⟨e1, e2⟩ := nW_c co c2
            rw [e1, e2]
            exact ⟨by omega, by omega, fun _ _ g => by omega, by omega, by omega, fun _ _ => rfl, fun _ => rfl⟩
        · obtain ⟨e1, e2⟩ := nW_a (h := h) co
          rw [e1, e2]
          exact ⟨q.1, q.2.1, fun _ g1 g2 => absurd ⟨g1, g2⟩ co, q.2.2.2.1, q.2.2.2.2.1, q.2.2.2.2.2.1, q.2.2.2.2.2.2⟩
    · rw [if_neg c, if_neg c]
      exact ⟨q.1, q.2.1, fun g => absurd g c, q.2.2.2.1, q.2.2.2.2.1, fun g => absurd g c, q.2.2.2.2.2.2⟩
theorem wPt_al {A : Int → Int} {L1 L2 : List Nat} {pl : Int → Int} {b : Int} : ∀ m, m ≤ L1.length → wPt A (L1 ++ L2) pl b m = wPt A L1 pl b m
  | 0, _ => rfl
  | m + 1, h => by rw [wPt_s, wPt_s, wPt_al m (by omega), getD_al (by omega)]
theorem RH_sum {A T at' : Int → Int} {s : Int} {L : List Nat} {n h : Nat} (hP : PLn A T at' s L n) (hw : WS A) {b : Int} (hb : 0 ≤ b ∧ b < 6) : ∀ m : Nat, m ≤ (A 1).toNat → bS (A (101 + b)) (fun k => RH A T at' s h (107 + k)) (wt A) b m = bS (A (101 + b)) (wh0 A h) (wt A) b m + wPt A (mbr s m) (plN A T at' h) b (mbr s m).length ∧ cS (fun k => RH A T at' s h (107 + k)) b m = cS (wh0 A h) b m + cPt (plN A T at' h) b (mbr s m).length
  | 0, _ => by
    have e : (mbr s 0).length = 0 := rfl
    rw [e]
    exact ⟨by show A (101 + b) = A (101 + b) + 0; omega, rfl⟩
  | m + 1, hm => by
    have b1 := hw.2.1
    obtain ⟨i1, i2⟩ := RH_sum (h := h) hP hw hb m (by omega)
    have hw2 : RH A T at' s h (107 + m) = SXw A T at' s h (h + 1) m := RH_w (by omega)
    have hs1 : bS (A (101 + b)) (fun k => RH A T at' s h (107 + k)) (wt A) b (m + 1) = if RH A T at' s h (107 + m) = b then bS (A (101 + b)) (fun k => RH A T at' s h (107 + k)) (wt A) b m + wt A m else bS (A (101 + b)) (fun k => RH A T at' s h (107 + k)) (wt A) b m := rfl
    have hs2 : cS (fun k => RH A T at' s h (107 + k)) b (m + 1) = if RH A T at' s h (107 + m) = b then cS (fun k => RH A T at' s h (107 + k)) b m + 1 else cS (fun k => RH A T at' s h (107 + k)) b m := rfl
    have hs3 : bS (A (101 + b)) (wh0 A h) (wt A) b (m + 1) = if wh0 A h m = b then bS (A (101 + b)) (wh0 A h) (wt A) b m + wt A m else bS (A (101 + b)) (wh0 A h) (wt A) b m := rfl
    have hs4 : cS (wh0 A h) b (m + 1) = if wh0 A h m = b then cS (wh0 A h) b m + 1 else cS (wh0 A h) b m := rfl
    have hwt : wt A m = A (22 + 3 * (m : Nat)) := rfl
    have c : (m : Int) < A 1 := by omega
    rw [hs1, hs2, hs3, hs4, hw2, i1, i2, mbr_s]
    unfold SXw
    rw [if_pos c]
    by_cases cb : iAnd (iShr s m) 1 = 1
    · obtain ⟨k1, k2, k3⟩ := PLn_k hP c cb
      have hk := hP.2.2.2.2 _ k1
      have hn0 : ¬ (wh0 A h m = b) := by rw [(nW_a (h := h) (by omega)).1, k3]; omega
      rw [if_pos cb, if_pos cb, if_neg hn0, if_neg hn0, List.length_append, List.length_singleton, wPt_s, cPt_s, wPt_al _ (Nat.le_refl _), getD_ar]
      have e : mWp A T at' h (h + 1) (mbr s m).length = b ↔ plN A T at' h (mbr s m).length = b := by
        generalize ((mbr s m).length : Int) = k at hk ⊢
        unfold mWp plN
        by_cases c1 : (h : Int) + 1 ≤ at' k
        · rw [if_pos c1, if_neg (by omega)]
        · by_cases c2 : (h : Int) < at' k + A (10 + T k)
          · rw [if_neg c1, if_pos c2, if_pos ⟨by omega, c2⟩]
          · rw [if_neg c1, if_neg c2, if_neg (fun g => c2 g.2)]
            omega
      by_cases g : plN A T at' h (mbr s m).length = b
      · rw [if_pos (e.mpr g), if_pos (e.mpr g), if_pos g, if_pos g, hwt]
        omega
      · rw [if_neg (fun q => g (e.mp q)), if_neg (fun q => g (e.mp q)), if_neg g, if_neg g]
        exact ⟨rfl, rfl⟩
    · rw [if_neg cb, if_neg cb, List.append_nil]
      by_cases g : wh0 A h m = b
      · rw [if_pos g, if_pos g, if_pos g, if_pos g]
        omega
      · rw [if_neg g, if_neg g, if_neg g, if_neg g]
        exact ⟨rfl, rfl⟩
theorem RH_nt {ru : RU} {A T at' : Int → Int} {s : Int} {L : List Nat} {n h : Nat} (hP : PLn A T at' s L n) (hw : WS A) {b : Nat} (hb : b < 6) : ntA ru (RH A T at' s h) b = ntE ru A L n h (plN A T at' h) b := by
  obtain ⟨e1, e2⟩ := RH_sum (T := T) (at' := at') (h := h) hP hw (b := b) (by omega) (A 1).toNat (Nat.le_refl _)
  have b1 := hw.2.1
  rw [← hP.1, hP.2.1] at e1 e2
  have h1 : RH A T at' s h 1 = A 1 := RH_lo (by decide) (by decide)
  unfold ntA ntE brn mny
  rw [h1, RH_lo (i := 101 + b) (by omega) (by omega), RH_lo (i := 83 + b) (by omega) (by omega)]
  have e3 : bS (A (101 + b)) (fun k => RH A T at' s h (107 + k)) (fun k => RH A T at' s h (22 + 3 * k)) b (A 1).toNat = bS (A (101 + b)) (fun k => RH A T at' s h (107 + k)) (wt A) b (A 1).toNat := bS_cong rfl (fun k hk => ⟨rfl, RH_lo (by omega) (by omega)⟩)
  rw [e3, e1, e2]
  unfold ntq
  rw [RH_n (i := 80) (by decide), RH_n (i := 81) (by decide), RH_n (i := 10 + b) (by omega), RH_n (i := 89 + b) (by omega), RH_n (i := 95 + b) (by omega)]
theorem RH_fp {ru : RU} {A T at' : Int → Int} {s : Int} {L : List Nat} {n h : Nat} (hP : PLn A T at' s L n) (hw : WS A) (c : Nat) (hc : c < 36) : fpG ru (RH A T at' s h) (ntA ru (RH A T at' s h)) c = fpG ru (AH A h) (ntE ru A L n h (plN A T at' h)) c := by
  unfold fpG
  rw [RH_n (i := 0) (by decide), RH_n (i := 16 + (c / 6 : Nat)) (by omega), RH_n (i := 80) (by decide), RH_n (i := 81) (by decide), RH_nt hP hw (by omega), RH_nt hP hw (by omega)]
theorem RH_tn {ru : RU} {A T at' : Int → Int} {s : Int} {L : List Nat} {n h : Nat} (hP : PLn A T at' s L n) (hw : WS A) : cn (fpG ru (RH A T at' s h) (ntA ru (RH A T at' s h))) 36 = tnE ru A L n h (plN A T at' h) := cn_cong (fun c hc => by rw [RH_fp hP hw c hc])
