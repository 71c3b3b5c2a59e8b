/-! rules by which the forms are worked out -/
theorem mEn_c (i : Nat) (v : mV) (r : List mV) (k : Nat) : mEn i (v :: r) k = if k = i then some v else mEn (i + mcw v) r k := rfl
theorem mEn_n (i k : Nat) : mEn i [] k = none := rfl
theorem mcw_i (z : Int) : mcw (vi z) = 1 := rfl
theorem mcw_l (z : Int) : mcw (vl z) = 2 := rfl
theorem mcw_r (k : Nat) : mcw (vr k) = 1 := rfl
theorem mcat_n : mcat [] = 0 := rfl
theorem mcat_i (z : Int) (r : List mV) : mcat (vi z :: r) = 1 + mcat r := rfl
theorem mcat_l (z : Int) (r : List mV) : mcat (vl z :: r) = 2 + mcat r := rfl
theorem mcat_r (k : Nat) (r : List mV) : mcat (vr k :: r) = 1 + mcat r := rfl
theorem xlong_i (z : Int) : xlong (some (vi z)) = false := rfl
theorem xlong_l (z : Int) : xlong (some (vl z)) = true := rfl
theorem xlong_r (k : Nat) : xlong (some (vr k)) = false := rfl
theorem xlong_n : xlong none = false := rfl
theorem s1_at (lv : mL) (i : Nat) (v : mV) (k : Nat) : s1 lv i v k = if k = i then some v else if k + 1 = i ∧ xlong (lv k) = true then none else lv k := rfl
theorem s2_at (lv : mL) (i : Nat) (v : mV) (k : Nat) : s2 lv i v k = if k = i then some v else if k = i + 1 then none else if k + 1 = i ∧ xlong (lv k) = true then none else lv k := rfl
section Forms
variable {K : mK} {pc t f : Nat} {lv : mL} {st : List mV} {M : mM} {v : mV} {i x y z n : Int} {a b k l : Nat} {c P : Prop}
theorem xLoad_i : xLoad 0 (some (vi x)) K pc lv st M = K pc lv (vi x :: st) M := e_and rfl
theorem xLoad_l : xLoad 1 (some (vl x)) K pc lv st M = K pc lv (vl x :: st) M := e_and rfl
theorem xLoad_r : xLoad 2 (some (vr k)) K pc lv st M = K pc lv (vr k :: st) M := e_and rfl
theorem xInc_s : xInc (some (vi x)) K pc lv k n st M = K pc (s1 lv k (vi (w32 (x + n)))) st M := rfl
theorem xBr_t [Decidable c] (h : c) : xBr c K t f lv st M = K t lv st M := if_pos h
theorem xBr_f [Decidable c] (h : ¬ c) : xBr c K t f lv st M = K f lv st M := if_neg h
theorem xBr_i [Decidable c] (h1 : c → K t lv st M) (h2 : ¬ c → K f lv st M) : xBr c K t f lv st M := by
  unfold xBr
  by_cases g : c
  · rw [if_pos g]; exact h1 g
  · rw [if_neg g]; exact h2 g
theorem xNz_s (h : y ≠ 0) : xNz y K pc lv v st M = K pc lv (v :: st) M := e_and h
theorem xGf_s : xGf a a K pc lv v st M = K pc lv (v :: st) M := e_and rfl
theorem xPf_s : xPf a a K pc lv st M = K pc lv st M := e_and rfl
theorem xPz_s (h : x = 0 ∨ x = 1) : xPz a a x K pc lv st M = K pc lv st M := (e_and rfl).trans (e_and h)
theorem xLd_2 (h : 0 ≤ i ∧ i < (l : Int)) : xLd 2 l k i K pc lv st M = K pc lv (vi (M k i) :: st) M := (e_and (Or.inl rfl)).trans (e_and ⟨h.1, Or.inl ⟨by decide, h.2⟩⟩)
theorem xLd_7 (h : 0 ≤ i ∧ i < (l : Int)) : xLd 7 l k i K pc lv st M = K pc lv (vi (M k i) :: st) M := (e_and (Or.inr (Or.inl rfl))).trans (e_and ⟨h.1, Or.inl ⟨by decide, h.2⟩⟩)
theorem xLd_10 (h : 0 ≤ i ∧ i < M k (-1)) : xLd 10 l k i K pc lv st M = K pc lv (vi (M k i) :: st) M := (e_and (Or.inr (Or.inr rfl))).trans (e_and ⟨h.1, Or.inr ⟨rfl, h.2⟩⟩)
theorem xLdb_3 (h : 0 ≤ i ∧ i < (l : Int)) : xLdb 3 l k i K pc lv st M = K pc lv (vi (M k i) :: st) M := (e_and (Or.inl rfl)).trans (e_and ⟨h.1, Or.inl ⟨by decide, h.2⟩⟩)
theorem xLdb_5 (h : 0 ≤ i ∧ i < (l : Int)) : xLdb 5 l k i K pc lv st M = K pc lv (vi (M k i) :: st) M := (e_and (Or.inr (Or.inl rfl))).trans (e_and ⟨h.1, Or.inl ⟨by decide, h.2⟩⟩)
theorem xLdb_9 (h : 0 ≤ i ∧ i < (l : Int)) : xLdb 9 l k i K pc lv st M = K pc lv (vi (M k i) :: st) M := (e_and (Or.inr (Or.inr rfl))).trans (e_and ⟨h.1, Or.inl ⟨by decide, h.2⟩⟩)
theorem xLdl_4 (h : 0 ≤ i ∧ i < (l : Int)) : xLdl 4 l k i K pc lv st M = K pc lv (vl (M k i) :: st) M := (e_and rfl).trans (e_and ⟨h.1, Or.inl ⟨by decide, h.2⟩⟩)
theorem xLdr_6 (h : 0 ≤ i ∧ i < (l : Int)) : xLdr 6 l k i K pc lv st M = K pc lv (vr (rf k i) :: st) M := (e_and rfl).trans (e_and ⟨h.1, Or.inl ⟨by decide, h.2⟩⟩)
theorem xSt_2 (h : 0 ≤ i ∧ i < (l : Int)) : xSt 2 l k i x K pc lv st M = K pc lv st (upC M k (mU (M k) i x)) := (e_and rfl).trans (e_and ⟨h.1, Or.inl ⟨by decide, h.2⟩⟩)
theorem xStl_4 (h : 0 ≤ i ∧ i < (l : Int)) : xStl 4 l k i x K pc lv st M = K pc lv st (upC M k (mU (M k) i x)) := (e_and rfl).trans (e_and ⟨h.1, Or.inl ⟨by decide, h.2⟩⟩)
theorem xStb_3 (h : 0 ≤ i ∧ i < (l : Int)) : xStb 3 l k i x K pc lv st M = K pc lv st (upC M k (mU (M k) i (i2b x))) := propext ⟨fun g => g.elim (fun g => g.2.2) (fun g => absurd g.1 (by decide)), fun g => Or.inl ⟨rfl, ⟨h.1, Or.inl ⟨by decide, h.2⟩⟩, g⟩⟩
theorem xStb_5 (h : 0 ≤ i ∧ i < (l : Int)) (hx : x = 0 ∨ x = 1) : xStb 5 l k i x K pc lv st M = K pc lv st (upC M k (mU (M k) i x)) := propext ⟨fun g => g.elim (fun g => absurd g.1 (by decide)) (fun g => g.2.2.2), fun g => Or.inr ⟨rfl, hx, ⟨h.1, Or.inl ⟨by decide, h.2⟩⟩, g⟩⟩
theorem xLen_s (h : 2 ≤ a ∧ a ≤ 9 ∧ a ≠ 8) : xLen a l k K pc lv st M = K pc lv (vi l :: st) M := propext ⟨fun g => g.elim (fun g => absurd g.1 (by omega)) (fun g => g.2.2.2.2), fun g => Or.inr ⟨by omega, h.1, h.2.1, h.2.2, g⟩⟩
theorem xLen_10 (h : 0 ≤ M k (-1)) : xLen 10 l k K pc lv st M = K pc lv (vi (M k (-1)) :: st) M := propext ⟨fun g => g.elim (fun g => g.2.2) (fun g => absurd rfl g.1), fun g => Or.inl ⟨rfl, h, g⟩⟩
theorem xCpy_s {sp dp : Int} {s d : Nat} (h : 0 ≤ sp ∧ 0 ≤ dp ∧ 0 ≤ n ∧ sp + n ≤ (a : Int) ∧ dp + n ≤ (b : Int)) : xCpy 2 2 a b s sp d dp n K pc lv st M = K pc lv st (upC M d (mCpy (M s) (M d) sp dp n)) := (e_and ⟨rfl, rfl⟩).trans (e_and h)
theorem xIv_s (h : l ≤ 8) : xIv l a a P = P := (e_and h).trans (e_and rfl)
theorem xMx_s (h : l ≤ 8) : xMx l K pc lv v st M = K pc lv (v :: st) M := e_and h
theorem mCont_s : mCont K pc lv st (some v) M = K pc lv (v :: st) M := rfl
theorem mCont_n : mCont K pc lv st none M = K pc lv st M := rfl
theorem w32_s (h : -2147483648 ≤ z ∧ z < 2147483648) : w32 z = z := by
  unfold w32
  exact Int.bmod_eq_of_le (by omega) (by omega)
theorem w64_s (h : -9223372036854775808 ≤ z ∧ z < 9223372036854775808) : w64 z = z := by
  unfold w64
  exact Int.bmod_eq_of_le (by omega) (by omega)
theorem upC_e {g : Int → Int} : upC M k g k = g := if_pos rfl
theorem upC_n {g : Int → Int} (h : l ≠ k) : upC M k g l = M l := if_neg h
theorem mU_e {g : Int → Int} : mU g i x i = x := if_pos rfl
theorem mU_n {g : Int → Int} (h : y ≠ i) : mU g i x y = g y := if_neg h
theorem upC_u {g h : Int → Int} : upC (upC M k g) k h = upC M k h := by
  funext q
  unfold upC
  by_cases e : q = k
  · rw [if_pos e, if_pos e]
  · rw [if_neg e, if_neg e, if_neg e]
theorem upC_c {g h : Int → Int} (e : k < l) : upC (upC M l g) k h = upC (upC M k h) l g := by
  funext q
  unfold upC
  by_cases e1 : q = k
  · rw [if_pos e1, if_neg (by omega), if_pos e1]
  · rw [if_neg e1, if_neg e1]
theorem upC_s : upC M k (M k) = M := by
  funext q
  unfold upC
  by_cases e : q = k
  · rw [if_pos e, e]
  · rw [if_neg e]
end Forms
