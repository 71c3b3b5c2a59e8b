/-! small words -/
def b2i (c : Prop) [Decidable c] : Int := if c then 1 else 0
theorem b2i_t {c : Prop} [Decidable c] (h : c) : b2i c = 1 := if_pos h
theorem b2i_f {c : Prop} [Decidable c] (h : ¬ c) : b2i c = 0 := if_neg h
theorem b2i_01 (c : Prop) [Decidable c] : b2i c = 0 ∨ b2i c = 1 := by
  unfold b2i
  by_cases h : c
  · right; exact if_pos h
  · left; exact if_neg h
theorem b2i_0 {c : Prop} [Decidable c] : (b2i c = 0) = ¬ c := by
  unfold b2i
  by_cases h : c <;> simp [h]
theorem b2i_1 {c : Prop} [Decidable c] : (b2i c = 1) = c := by
  unfold b2i
  by_cases h : c <;> simp [h]
theorem b2i_ok {c : Prop} [Decidable c] : rOK (some .boolean) (b2i c) = True := propext ⟨fun _ => trivial, fun _ => b2i_01 c⟩
theorem xBr_e {c : Prop} [Decidable c] {K : mK} {t f : Nat} {lv : mL} {st : List mV} {M : mM} {R : Prop} (h1 : c → K t lv st M = R) (h2 : ¬ c → K f lv st M = R) : xBr c K t f lv st M = R := by
  by_cases h : c
  · rw [xBr_t h]; exact h1 h
  · rw [xBr_f h]; exact h2 h
/-- a number in a set -/
def inS (s n : Int) : Prop := 0 ≤ n ∧ n < 31 ∧ iAnd (iShr s n) 1 = 1
theorem rn_M {d j : Nat} {Q : mQ} {pc : Nat} {lv : mL} {st : List mV} {M M2 : mM} {R : Prop} (h : M = M2) (h2 : rn d j Q pc lv st M2 = R) : rn d j Q pc lv st M = R := by rw [h]; exact h2
theorem xBr_en {p : Prop} [Decidable (¬ p)] {K : mK} {t f : Nat} {lv : mL} {st : List mV} {M : mM} {R : Prop} (h1 : ¬ p → K t lv st M = R) (h2 : p → K f lv st M = R) : xBr (¬ p) K t f lv st M = R :=
  xBr_e h1 (fun h => h2 (Classical.not_not.mp h))
