/-! retuned: the reference -/
theorem a_areBr1 {d : Nat} {M : mM} {K : mQ} {A : Int → Int} {ru : RU} (h : CX M A ru) {z n : Int} (hz : R32 z) (c : brO A z n) : mCall (d + 2) 95 [vr 2, vi z, vi n] M K = K (some (vi 1)) M := by
  have h1 := h.1.1
  have h2 := h.2.2.2.1.1
  obtain ⟨p1, p2⟩ := p2N (A 0).toNat (by omega)
  have hsh := shl1c (k := (A 0).toNat) (by omega)
  rw [show ((A 0).toNat : Int) = A 0 by omega] at hsh
  obtain ⟨⟨c1, c2⟩, c3⟩ := c
  have hpm := pc_more (x := z) (n := (A 0).toNat) ⟨by omega, by omega⟩ (12 - (A 0).toNat)
  rw [show (A 0).toNat + (12 - (A 0).toNat) = 12 by omega] at hpm
  have hb : bcE z = ((mbr z (A 0).toNat).length : Int) := by
    have : (2 : Nat) ^ (A 0).toNat ≤ 2 ^ 6 := Nat.pow_le_pow_right (by decide) (by omega)
    rw [bcE_s (by omega), hpm, mbr_len hz _ (by omega)]
  rw [c_areBridges (by omega), h1, hsh, hb, b2i_t ⟨by omega, by omega, c3⟩]
theorem a_areBr0 {d : Nat} {M : mM} {K : mQ} {A : Int → Int} {ru : RU} (h : CX M A ru) {z n : Int} (hz : R32 z) (c : ¬ brO A z n) : mCall (d + 2) 95 [vr 2, vi z, vi n] M K = K (some (vi 0)) M := by
  have h1 := h.1.1
  have h2 := h.2.2.2.1.1
  obtain ⟨p1, p2⟩ := p2N (A 0).toNat (by omega)
  have hsh := shl1c (k := (A 0).toNat) (by omega)
  rw [show ((A 0).toNat : Int) = A 0 by omega] at hsh
  rw [c_areBridges (by omega), h1, hsh, b2i_f]
  rintro ⟨g1, g2, g3⟩
  have hpm := pc_more (x := z) (n := (A 0).toNat) ⟨by omega, by omega⟩ (12 - (A 0).toNat)
  rw [show (A 0).toNat + (12 - (A 0).toNat) = 12 by omega] at hpm
  have hb : bcE z = ((mbr z (A 0).toNat).length : Int) := by
    have : (2 : Nat) ^ (A 0).toNat ≤ 2 ^ 6 := Nat.pow_le_pow_right (by decide) (by omega)
    rw [bcE_s (by omega), hpm, mbr_len hz _ (by omega)]
  exact c ⟨⟨by omega, by omega⟩, by omega⟩
/-- the row with other strings -/
def RS (A : Int → Int) (L : List Nat) (n : Nat) (v : Int → Int) : Int → Int := fun i => if 83 ≤ i ∧ i < 89 ∧ ask L (i - 83) n ≠ -1 then A i - 5 + v (ask L (i - 83) n) else A i
theorem RS_n {A : Int → Int} {L : List Nat} {n : Nat} {v : Int → Int} {i : Int} (h : i < 83 ∨ 89 ≤ i) : RS A L n v i = A i := if_neg (fun g => by omega)
theorem RS_s {A : Int → Int} {L : List Nat} {n b : Nat} {v : Int → Int} (hb : b < 6) : RS A L n v (83 + b) = if ask L b n = -1 then A (83 + b) else A (83 + b) - 5 + v (ask L b n) := by
  unfold RS
  rw [show (83 : Int) + b - 83 = b by omega]
  by_cases c : ask L b n = -1
  · rw [if_neg (fun g => g.2.2 c), if_pos c]
  · rw [if_pos ⟨by omega, by omega, c⟩, if_neg c]
theorem RS_WS {A : Int → Int} {L : List Nat} {n : Nat} {v : Int → Int} (k4 : WS A) : WS (RS A L n v) := by
  have lo : ∀ i, i < 80 → RS A L n v i = A i := fun i hi => RS_n (by omega)
  unfold WS at k4 ⊢
  rw [lo 0 (by decide), lo 1 (by decide)]
  refine ⟨k4.1, k4.2.1, fun b hb => ?_, fun l hl => ?_, fun p q hp hq => ?_⟩
  · rw [lo (10 + b) (by omega), lo (16 + b) (by omega)]; exact k4.2.2.1 b hb
  · rw [lo (22 + 3 * l) (by omega), lo (23 + 3 * l) (by omega), lo (24 + 3 * l) (by omega)]; exact k4.2.2.2.1 l hl
  · rw [lo (16 + p) (by omega), lo (16 + q) (by omega)]; exact k4.2.2.2.2 p q hp hq
theorem RS_WD {A : Int → Int} {L : List Nat} {n : Nat} {v : Int → Int} {s : Int} (hBR : BRs A s L n) (hw : WS A) (hd : WD A) (hv : ∀ k, k < n → 0 ≤ v k ∧ v k < 11 ∧ vRe A L k (v k).toNat = true) : WD (RS A L n v) := by
  obtain ⟨w1, w2, w3, w4, w5⟩ := hd
  have b0 := hw.1
  refine ⟨by rw [RS_n (by decide)]; exact w1, by rw [RS_n (by decide)]; exact w2, by rw [RS_n (by decide)]; exact w3, fun b hb => ?_, fun l hl => ?_⟩
  · have q := w4 b hb
    rw [RS_n (i := 89 + b) (by omega), RS_n (i := 95 + b) (by omega), RS_n (i := 101 + b) (by omega), RS_n (i := 0) (by decide)]
    refine ⟨?_, ?_, ?_, ?_, q.2.2.2.2⟩
    all_goals rw [RS_s hb]
    all_goals by_cases c : ask L b n = -1
    · rw [if_pos c]; exact q.1
    · by_cases ci : isI s b
      · obtain ⟨i, hi, rfl⟩ := BRs_ex hBR ci
        have ha := (BRs_in hBR hi).1
        have h3 := (hv i hi).2.2
        unfold vRe at h3
        rw [Bool.and_eq_true, decide_eq_true_eq, decide_eq_true_eq] at h3
        have h4 := hv i hi
        rw [if_neg c, ha]
        omega
      · exact absurd (BRs_out hBR ci) c
    · rw [if_pos c]; exact q.2.1
    · by_cases ci : isI s b
      · obtain ⟨i, hi, rfl⟩ := BRs_ex hBR ci
        have ha := (BRs_in hBR hi).1
        have h3 := (hv i hi).2.2
        unfold vRe at h3
        rw [Bool.and_eq_true, decide_eq_true_eq, decide_eq_true_eq] at h3
        have h4 := hv i hi
        rw [if_neg c, ha]
        omega
      · exact absurd (BRs_out hBR ci) c
    · rw [if_pos c]; exact q.2.2.1
    · by_cases ci : isI s b
      · obtain ⟨i, hi, rfl⟩ := BRs_ex hBR ci
        have ha := (BRs_in hBR hi).1
        have h3 := (hv i hi).2.2
        unfold vRe at h3
        rw [Bool.and_eq_true, decide_eq_true_eq, decide_eq_true_eq] at h3
        have h4 := hv i hi
        rw [if_neg c, ha]
        omega
      · exact absurd (BRs_out hBR ci) c
    · rw [if_pos c]; exact q.2.2.2.1
    · by_cases ci : isI s b
      · obtain ⟨i, hi, rfl⟩ := BRs_ex hBR ci
        have hlt := hBR.2.2 i hi
        intro g
        omega
      · exact absurd (BRs_out hBR ci) c
  · rw [RS_n (i := 107 + l) (by omega), RS_n (i := 119 + l) (by omega), RS_n (i := 0) (by decide), RS_n (i := 1) (by decide)]
    have q := w5 l hl
    refine ⟨q.1, q.2.1, fun a b c => ?_, q.2.2.2⟩
    rw [RS_n (by omega)]
    exact q.2.2.1 a b c
theorem RS_nt {ru : RU} {A : Int → Int} {L : List Nat} {n b : Nat} {v : Int → Int} {s : Int} (hBR : BRs A s L n) (hb : b < 6) (hv : ∀ k, k < n → 0 ≤ v k ∧ v k < 11) (hw : WS A) : ntA ru (RS A L n v) b = ntV ru A L n (nRe ru A L) v b := by
  have b1 := hw.2.1
  have eb : brn (RS A L n v) b = brn A b := by
    unfold brn
    rw [RS_n (i := 101 + b) (by omega), RS_n (i := 1) (by decide)]
    exact bS_cong rfl (fun k hk => ⟨RS_n (by omega), RS_n (by omega)⟩)
  have em : mny (RS A L n v) b = mny A b := by
    unfold mny
    rw [RS_n (i := 1) (by decide)]
    exact cS_cong (fun k hk => RS_n (by omega))
  have en : ∀ x y z, ntq ru (RS A L n v) b x y z = ntq ru A b x y z := fun x y z => by
    unfold ntq
    rw [RS_n (i := 80) (by decide), RS_n (i := 81) (by decide), RS_n (i := 10 + b) (by omega), RS_n (i := 89 + b) (by omega), RS_n (i := 95 + b) (by omega)]
  unfold ntA
  rw [eb, em, en, RS_s hb]
  by_cases ci : isI s b
  · obtain ⟨i, hi, rfl⟩ := BRs_ex hBR ci
    have ha := (BRs_in hBR hi).1
    have h4 := hv i hi
    rw [ntV_in hBR hi, ha, if_neg (by omega)]
    unfold nRe
    rw [show (((v i).toNat : Nat) : Int) = v i by omega]
  · rw [ntV_out hBR ci, BRs_out hBR ci, if_pos rfl]
    rfl
theorem RS_fp {ru : RU} {A : Int → Int} {L : List Nat} {n : Nat} {v : Int → Int} {s : Int} (hBR : BRs A s L n) (hv : ∀ k, k < n → 0 ≤ v k ∧ v k < 11) (hw : WS A) : cn (fpG ru (RS A L n v) (ntA ru (RS A L n v))) 36 = cn (fpG ru A (ntV ru A L n (nRe ru A L) v)) 36 := cn_cong (fun c hc => by
  have e : fpG ru (RS A L n v) (ntA ru (RS A L n v)) c = fpG ru A (ntV ru A L n (nRe ru A L) v) c := by
    unfold fpG
    rw [RS_n (i := 0) (by decide), RS_n (i := 16 + (c / 6 : Nat)) (by omega), RS_n (i := 80) (by decide), RS_n (i := 81) (by decide), RS_nt hBR (by omega) hv hw, RS_nt hBR (by omega) hv hw]
  rw [e])
theorem p11 : ∀ n, n < 4 → 1 ≤ 11 ^ n ∧ 11 ^ n ≤ 1331 := by decide
def okRt (A : Int → Int) (s x : Int) : Prop := brO A s 3 ∧ (x = -1 ∨ isI s x)
noncomputable def rtZ (ru : RU) (A : Int → Int) (L : List Nat) (x : Int) : Int := if (chB ru A L L.length 11 0 0 (nRe ru A L) (vRe A L)).1 = -1 ∨ x = -1 then (chB ru A L L.length 11 0 0 (nRe ru A L) (vRe A L)).1 else A (83 + x) - 5 + ov 11 L.length (chB ru A L L.length 11 0 0 (nRe ru A L) (vRe A L)).2 (ask L x L.length)
