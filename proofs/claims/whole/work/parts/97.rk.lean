/-! a plan: what both sides mean -/
def AH (A : Int → Int) (h : Int) : Int → Int := mU A 81 (A 81 + h)
theorem AH_n {A : Int → Int} {h i : Int} (hi : i ≠ 81) : AH A h i = A i := mU_n hi
def wh0 (A : Int → Int) (h : Int) : Int → Int := fun l => if (0 ≤ A (107 + l) ∧ A (107 + l) < 6) ∧ A (10 + A (107 + l)) ≤ A (119 + l) + h then 6 else A (107 + l)
theorem wh0_b {A : Int → Int} {h l b : Int} (hb : 0 ≤ b ∧ b < 6) : wh0 A h l = b ↔ A (107 + l) = b ∧ A (119 + l) + h < A (10 + b) := by
  unfold wh0
  by_cases c : (0 ≤ A (107 + l) ∧ A (107 + l) < 6) ∧ A (10 + A (107 + l)) ≤ A (119 + l) + h
  · rw [if_pos c]
    constructor
    · intro e; omega
    · rintro ⟨e1, e2⟩
      rw [e1] at c
      omega
  · rw [if_neg c]
    constructor
    · intro e
      rw [e] at c
      exact ⟨e, by omega⟩
    · intro e; exact e.1
def wt (A : Int → Int) : Int → Int := fun k => A (22 + 3 * k)
/-- the notes at an hour, so many of the members being on bridges -/
def ntE (ru : RU) (A : Int → Int) (L : List Nat) (n : Nat) (h : Int) (pl : Int → Int) : Int → Int := fun b => ntq ru (AH A h) b (A (83 + b)) (bS (A (101 + b)) (wh0 A h) (wt A) b (A 1).toNat + wPt A L pl b n) (cS (wh0 A h) b (A 1).toNat + cPt pl b n)
def tnE (ru : RU) (A : Int → Int) (L : List Nat) (n : Nat) (h : Int) (pl : Int → Int) : Nat := cn (fpG ru (AH A h) (ntE ru A L n h pl)) 36
theorem ntE_c {ru : RU} {A : Int → Int} {L : List Nat} {n : Nat} {h : Int} {p1 p2 : Int → Int} (hp : ∀ k : Nat, k < n → p1 k = p2 k) : ntE ru A L n h p1 = ntE ru A L n h p2 := by
  funext b
  unfold ntE
  rw [wPt_c (p1 := p1) (p2 := p2) n (fun i hi => by rw [hp i hi]), cPt_c (p1 := p1) (p2 := p2) n (fun i hi => by rw [hp i hi])]
theorem tnE_c {ru : RU} {A : Int → Int} {L : List Nat} {n : Nat} {h : Int} {p1 p2 : Int → Int} (hp : ∀ k : Nat, k < n → p1 k = p2 k) : tnE ru A L n h p1 = tnE ru A L n h p2 := by
  unfold tnE
  rw [ntE_c hp]
/-- where the members are at an hour -/
def plN (A T at' : Int → Int) (h : Int) : Int → Int := fun k => if at' k ≤ h ∧ h < at' k + A (10 + T k) then T k else -1
def plS (T : Int → Int) (s : Int) : Int → Int := fun k => if iAnd (iShr s k) 1 = 1 then T k else -1
def onN (A T at' : Int → Int) (h : Int) : Int → Int := fun k => if at' k ≤ h ∧ h < at' k + A (10 + T k) then 1 else 0
theorem plS_N {A T at' : Int → Int} {h : Int} {n k : Nat} (hn : n ≤ 4) (hk : k < n) : plS T (lwS (onN A T at' h) 1 n) k = plN A T at' h k := by
  have hl := lwS_lt (wh := onN A T at' h) (b := 1) n
  obtain ⟨p1, p2⟩ := p2N n (by omega)
  have hb : iAnd (iShr (lwS (onN A T at' h) 1 n) (k : Int)) 1 = if k < n ∧ onN A T at' h k = 1 then 1 else 0 := by
    rw [bit_at (by unfold R32; omega) (by omega), lwS_bit]
  unfold plS plN
  by_cases c : at' k ≤ h ∧ h < at' k + A (10 + T k)
  · have ho : onN A T at' h k = 1 := if_pos c
    rw [if_pos ⟨hk, ho⟩] at hb
    rw [if_pos hb, if_pos c]
  · have ho : onN A T at' h k = 0 := if_neg c
    rw [if_neg (fun g => by have := g.2; omega)] at hb
    rw [if_neg (by omega), if_neg c]
/-- the class's Ear some hours ahead -/
theorem CX_ahead {M : mM} {A : Int → Int} {ru : RU} {h : Nat} (hX : CX M A ru) (h0 : M 63 2 = 0) (hh : A 81 ≤ 999) (h14 : h ≤ 14) : CX (upC M 63 (mU (M 63) 2 h)) (AH A h) ru := by
  obtain ⟨k1, k2, k3, k4, k5, k6⟩ := hX
  have lo : ∀ i, i ≠ 81 → AH A h i = A i := fun i hi => AH_n hi
  have e81 : AH A h 81 = A 81 + h := mU_e
  have cc : ∀ c, c ≠ 63 → (upC M 63 (mU (M 63) 2 h)) c = M c := fun c hc => upC_n hc
  refine ⟨?_, ?_, ?_, ?_, ?_, CR_c k6 (by rw [cc 2 (by decide)]) (fun k hk => cc k (by rintro rfl; revert hk; decide))⟩
  · unfold SV at k1 ⊢
    rw [cc 2 (by decide), cc (2 + 2) (by decide), cc (2 + 3) (by decide), cc (2 + 4) (by decide), cc (2 + 5) (by decide), cc (2 + 6) (by decide), lo 0 (by decide), lo 1 (by decide)]
    refine ⟨k1.1, k1.2.1, fun b hb => ?_, fun l hl => ?_⟩
    · rw [lo (10 + b) (by omega), lo (16 + b) (by omega)]; exact k1.2.2.1 b hb
    · rw [lo (22 + 3 * l) (by omega), lo (23 + 3 * l) (by omega), lo (24 + 3 * l) (by omega)]; exact k1.2.2.2 l hl
  · rw [cc 9 (by decide)]
    unfold RD at k2 ⊢
    rw [lo 1 (by decide), lo 80 (by decide), lo 82 (by decide)]
    refine ⟨fun b hb => ?_, fun l hl => ?_, k2.2.2⟩
    · rw [lo (83 + b) (by omega), lo (89 + b) (by omega), lo (95 + b) (by omega), lo (101 + b) (by omega)]; exact k2.1 b hb
    · rw [lo (107 + l) (by omega), lo (119 + l) (by omega)]; exact k2.2.1 l hl
  · rw [cc 9 (by decide), upC_e, mU_e, e81]
    omega
  · unfold WS at k4 ⊢
    rw [lo 0 (by decide), lo 1 (by decide)]
    refine ⟨k4.1, k4.2.1, fun b hb => ?_, fun l hl => ?_, fun p q hp hq => ?_⟩
    · rw [lo (10 + b) (by omega), lo (16 + b) (by omega)]; exact k4.2.2.1 b hb
    · rw [lo (22 + 3 * l) (by omega), lo (23 + 3 * l) (by omega), lo (24 + 3 * l) (by omega)]; exact k4.2.2.2.1 l hl
    · rw [lo (16 + p) (by omega), lo (16 + q) (by omega)]; exact k4.2.2.2.2 p q hp hq
  · obtain ⟨w1, w2, w3, w4, w5⟩ := k5
    refine ⟨by rw [lo 80 (by decide)]; exact w1, by rw [e81]; omega, by rw [lo 82 (by decide)]; exact w3, fun b hb => ?_, fun l hl => ?_⟩
    · rw [lo (83 + b) (by omega), lo (89 + b) (by omega), lo (95 + b) (by omega), lo (101 + b) (by omega), lo 0 (by decide)]
      exact w4 b hb
    · rw [lo (107 + l) (by omega), lo (119 + l) (by omega), lo 0 (by decide), lo 1 (by decide)]
      have q := w5 l hl
      refine ⟨q.1, q.2.1, fun a b c => ?_, q.2.2.2⟩
      rw [lo (10 + A (107 + l)) (by omega)]
      exact q.2.2.1 a b c
