/-! text: the class takes a ONE -/
def cmF : FR → Int
  | [] => 0
  | (x, _) :: F => if 28 ≤ x ∧ x ≤ 33 then 1 else cmF F
def b01 (b : Bool) : Int := if b = true then 1 else 0
/-- a law being read, in the class: g signs more wait than in the machine -/
def CLs (t : Nat) (M : mM) (w i0 N : Int) (F : FR) (L : List (Int × Int)) (w1 aA : Bool) : Prop := ∃ g : Nat, ∃ Lc : List (Int × Int), (w1 = true → g = 0) ∧ L = Lc ++ mns g ∧ M 61 3 = ((27 + 8 * t : Nat) : Int) ∧ M 61 4 = w ∧ aSt (M 62) (List.replicate g 45 ++ fl F) ∧ M 61 7 = (g : Int) + (fl F).length ∧ M 61 8 = (dep F : Int) + g ∧ M 61 9 = par F ∧ M 61 10 = b01 w1 ∧ M 61 11 = b01 aA ∧ M 61 12 = cmF F ∧ M (27 + 8 * t) 5 = i0 + Lc.length ∧ vAt (M (27 + 8 * t + 4)) i0 (Lc.map enc) ∧ 0 ≤ i0 ∧ i0 + L.length + (fl F).length ≤ N ∧ dep F + g ≤ 8
def fLw (t : Nat) (M M' : mM) : Prop := (∀ k, k ≠ 61 → k ≠ 62 → k ≠ 27 + 8 * t → k ≠ 27 + 8 * t + 4 → M' k = M k) ∧ (∀ i, i < 7 ∨ 12 < i → M' 61 i = M 61 i) ∧ (∀ i, i ≠ 5 → M' (27 + 8 * t) i = M (27 + 8 * t) i)
theorem fLw_r {t : Nat} {M : mM} : fLw t M M := ⟨fun _ _ _ _ _ => rfl, fun _ _ => rfl, fun _ _ => rfl⟩
theorem fLw_t {t : Nat} {M M1 M2 : mM} (h1 : fLw t M M1) (h2 : fLw t M1 M2) : fLw t M M2 := ⟨fun k a b c e => (h2.1 k a b c e).trans (h1.1 k a b c e), fun i a => (h2.2.1 i a).trans (h1.2.1 i a), fun i a => (h2.2.2 i a).trans (h1.2.2 i a)⟩
theorem mns_len (n : Nat) : (mns n).length = n := by
  unfold mns em
  rw [List.length_map, List.length_replicate]
theorem cmF_dM {tn : Bool} : ∀ F : FR, okF tn F → cmF (dM F) = cmF F ∧ par (dM F) = par F
  | [], h => h.elim
  | (x, ws) :: F, h => by
    by_cases c : x = 45
    · have e1 : dM ((x, ws) :: F) = dM F := by
        show (if x = 45 then dM F else _) = _
        rw [if_pos c]
      have e2 : cmF ((x, ws) :: F) = cmF F := by
        show (if 28 ≤ x ∧ x ≤ 33 then 1 else cmF F) = _
        rw [if_neg (by omega)]
      have e3 : par ((x, ws) :: F) = par F := by
        show (if x = 39 then 1 else 0) + par F = _
        rw [if_neg (by omega), Nat.zero_add]
      cases F with
      | nil => exact absurd h.1 (by omega)
      | cons p F =>
        obtain ⟨a, b⟩ := cmF_dM (p :: F) h.1
        rw [e1, e2, e3]
        exact ⟨a, b⟩
    · have e1 : dM ((x, ws) :: F) = (x, ws) :: F := by
        show (if x = 45 then dM F else _) = _
        rw [if_neg c]
      rw [e1]
      exact ⟨rfl, rfl⟩
theorem cmF_fO {aA : Bool} {F : FR} : cmF (fO aA F) = cmF F ∧ par (fO aA F) = par F := by
  cases aA with
  | false => exact ⟨rfl, rfl⟩
  | true =>
    refine ⟨?_, ?_⟩
    · show (if 28 ≤ (2 : Int) ∧ (2 : Int) ≤ 33 then 1 else cmF F) = _
      rw [if_neg (by decide)]
    · show (if (2 : Int) = 39 then 1 else 0) + par F = _
      rw [if_neg (by decide), Nat.zero_add]
set_option maxHeartbeats 1000000 in
/-- a ONE is whole: its item written -/
theorem CLs_one {tn : Bool} {t : Nat} {M M' : mM} {w i0 N : Int} {F : FR} {L : List (Int × Int)} {aA : Bool} {q : Int × Int} (ht : t < 4) (h : okM2 tn F true aA) (hC : CLs t M w i0 N F L true aA) (hf : fLw t M M') (h62 : M' 62 = M 62) (h7 : ∀ i, i ≠ 10 → i ≠ 11 → M' 61 i = M 61 i) (h10 : M' 61 10 = 0) (h11 : M' 61 11 = 0) (h5 : M' (27 + 8 * t) 5 = M (27 + 8 * t) 5 + 1) (hc : M' (27 + 8 * t + 4) = mU (M (27 + 8 * t + 4)) (M (27 + 8 * t) 5) (enc q)) : CLs t M' w i0 (N + 1) (dM (fO aA F)) (L ++ (q :: mns (nM (fO aA F)))) false false := by
  obtain ⟨g, Lc, h0, hL, a3, a4, as, a7, a8, a9, a10, a11, a12, a5, ac, ai, aN, aD⟩ := hC
  obtain rfl := h0 rfl
  have hLc : L = Lc := by rw [hL]; exact List.append_nil Lc
  subst hLc
  obtain ⟨o1, o2, o3, o4⟩ := fO_ok h
  obtain ⟨d1, d2, d3, d4, d5⟩ := dM_ok _ o1 o2
  have hfl := fl_dM _ o1
  rw [fl_fO] at hfl
  have hfll : (fl F).length = nM (fO aA F) + (fl (dM (fO aA F))).length := by rw [hfl, List.length_append, List.length_replicate]
  obtain ⟨e1, e2⟩ := cmF_dM _ o1
  obtain ⟨e3, e4⟩ := cmF_fO (aA := aA) (F := F)
  refine ⟨nM (fO aA F), L ++ [q], fun e => (by cases e), by rw [List.append_assoc]; rfl, ?_, ?_, ?_, ?_, ?_, ?_, h10, h11, ?_, ?_, ?_, ai, ?_, by omega⟩
  · rw [h7 3 (by decide) (by decide)]; exact a3
  · rw [h7 4 (by decide) (by decide)]; exact a4
  · rw [h62, ← hfl]; exact as
  · rw [h7 7 (by decide) (by decide), a7]; omega
  · rw [h7 8 (by decide) (by decide), a8]; omega
  · rw [h7 9 (by decide) (by decide), a9, e2, e4]
  · rw [h7 12 (by decide) (by decide), a12, e1, e3]
  · rw [h5, a5, List.length_append, List.length_singleton]; omega
  · rw [hc, a5, List.map_append]
    exact vAt_snoc (by rw [List.length_map]) ac
  · rw [List.length_append, List.length_cons, mns_len]; omega
