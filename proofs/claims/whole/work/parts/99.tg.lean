/-! text: what the class's reader holds between tokens -/
def KK (M : mM) : Prop := ∀ k, 142 ≤ k → k ≤ 150 → M k = CT k
theorem KK_KC {M : mM} (h : KK M) : KC M := by
  refine ⟨?_, h 148 (by decide) (by decide), ?_, h 150 (by decide) (by decide)⟩
  · rw [h 147 (by decide) (by decide)]; rfl
  · rw [h 149 (by decide) (by decide)]; rfl
theorem KK_KP {M : mM} (h : KK M) : KP M := fun k a b => h k a (by omega)
theorem up61 {M : mM} {i v : Int} (h : M 61 i = v) : upC M 61 (mU (M 61) i v) = M := by
  funext k j
  by_cases c : k = 61
  · rw [c, upC_e]
    by_cases e : j = i
    · rw [e, mU_e, h]
    · rw [mU_n e]
  · rw [upC_n c]
def fT (t : Nat) (M M' : mM) : Prop := (∀ k, k ≠ 59 → k ≠ 61 → k ≠ 62 → (k < 27 + 8 * t ∨ 27 + 8 * t + 6 < k) → M' k = M k) ∧ ∀ i, i ≠ 2 → i ≠ 3 → i ≠ 4 → M' 59 i = M 59 i
theorem fT_r {t : Nat} {M : mM} : fT t M M := ⟨fun _ _ _ _ _ => rfl, fun _ _ _ _ => rfl⟩
theorem fT_t {t : Nat} {M M1 M2 : mM} (h1 : fT t M M1) (h2 : fT t M1 M2) : fT t M M2 := ⟨fun k a b c e => (h2.1 k a b c e).trans (h1.1 k a b c e), fun i a b c => (h2.2 i a b c).trans (h1.2 i a b c)⟩
theorem fT_59 {t : Nat} {M M' : mM} (h : f59 M M') : fT t M M' := ⟨fun k a _ _ _ => h.1 k (fun q => a (List.mem_singleton.mp q)), fun i a b c => h.2 i a b c⟩
theorem fT_L {t : Nat} {M M' : mM} (ht : t < 4) (h : fLw t M M') : fT t M M' := ⟨fun k _ a b c => h.1 k a b (by omega) (by omega), fun i _ _ _ => by rw [h.1 59 (by decide) (by decide) (by omega) (by omega)]⟩
theorem fT_E {t : Nat} {w x : Int} {M M' : mM} (ht : t < 4) (h : fEn t w x M M') : fT t M M' := ⟨fun k _ a b c => h.1 k a b (by omega) (by omega) (by omega), fun i _ _ _ => by rw [h.1 59 (by decide) (by decide) (by omega) (by omega) (by omega)]⟩
theorem fT_P {t : Nat} {cn : Int} {M M' : mM} (ht : t < 4) (h : fPt t cn M M') : fT t M M' := ⟨fun k _ a _ c => h.1 k a (by omega) (by omega), fun i _ _ _ => by rw [h.1 59 (by decide) (by omega) (by omega)]⟩
theorem fT_e {t : Nat} {cn : Int} {M M' : mM} (ht : t < 4) (h : fPe t cn M M') : fT t M M' := ⟨fun k _ a _ c => h.1 k a (by omega), fun i _ _ _ => by rw [h.1 59 (by decide) (by omega)]⟩
theorem fT_B {t : Nat} {w cn : Int} {M M' : mM} (ht : t < 4) (h : fBg t w cn M M') : fT t M M' := ⟨fun k _ a _ c => h.1 k a (by omega) (by omega) (by omega) (by omega), fun i _ _ _ => by rw [h.1 59 (by decide) (by omega) (by omega) (by omega) (by omega)]⟩
theorem fT_61 {t : Nat} {M : mM} {f : Int → Int} : fT t M (upC M 61 f) := ⟨fun k _ a _ _ => upC_n a, fun i _ _ _ => by rw [upC_n (by decide)]⟩
/-- what always holds -/
def BS (t n : Nat) (f : Int → Int) (p : Nat) (M : mM) : Prop := TC M f n ∧ KK M ∧ M 59 2 = p ∧ M 61 3 = ((27 + 8 * t : Nat) : Int) ∧ M 61 0 = 0 ∧ M 61 1 = -1
theorem BS_c {t n : Nat} {f : Int → Int} {p : Nat} {M M' : mM} (h : BS t n f p M) (e59 : M' 59 = M 59) (e60 : M' 60 = M 60) (ek : ∀ k, 142 ≤ k → k ≤ 150 → M' k = M k) (e3 : M' 61 3 = M 61 3) (e0 : M' 61 0 = M 61 0) (e1 : M' 61 1 = M 61 1) : BS t n f p M' := by
  obtain ⟨a, b, c, d, e, g⟩ := h
  refine ⟨⟨by rw [e59]; exact a.1, a.2.1, by rw [e60]; exact a.2.2.1, a.2.2.2⟩, fun k h1 h2 => by rw [ek k h1 h2]; exact b k h1 h2, by rw [e59]; exact c, by rw [e3]; exact d, by rw [e0]; exact e, by rw [e1]; exact g⟩
theorem BS_59 {t n : Nat} {f : Int → Int} {p q : Nat} {M M' : mM} (h : BS t n f p M) (e : f59 M M') (e2 : M' 59 2 = q) : BS t n f q M' := by
  obtain ⟨a, b, c, d, e0, g⟩ := h
  have e61 : M' 61 = M 61 := e.1 61 (by decide)
  exact ⟨TC_c a e, fun k h1 h2 => by rw [e.1 k (by intro q; have := List.mem_singleton.mp q; omega)]; exact b k h1 h2, e2, by rw [e61]; exact d, by rw [e61]; exact e0, by rw [e61]; exact g⟩
def CDt (t : Nat) (M : mM) (D : List CLZ) : Prop := M (27 + 8 * t) 3 = D.length ∧ ∀ (i : Nat) (c : CLZ), D[i]? = some c → M (27 + 8 * t + 1) i = c.1 ∧ M (27 + 8 * t + 2) i = c.2.1 ∧ M (27 + 8 * t + 3) i = c.2.2.1
def CDw (t : Nat) (M : mM) (D : List CLZ) (P : List (Int × Int)) : Prop := ∀ w, 0 ≤ w → w ≤ 3 → (¬ hasW w D ∧ M (27 + 8 * t + 6) w = 0) ∨ ∃ (i : Nat) (c : CLZ) (pre suf : List (Int × Int)), D[i]? = some c ∧ c.1 = w ∧ P = pre ++ (c.2.2.2 ++ suf) ∧ M (27 + 8 * t + 5) w = pre.length ∧ M (27 + 8 * t + 6) w = (pre.length : Int) + c.2.2.2.length ∧ c.2.2.2 ≠ []
theorem CDt_c {t : Nat} {M M' : mM} {D : List CLZ} (h : CDt t M D) (e3 : M' (27 + 8 * t) 3 = M (27 + 8 * t) 3) (e : ∀ i : Int, i ≠ D.length → M' (27 + 8 * t + 1) i = M (27 + 8 * t + 1) i ∧ M' (27 + 8 * t + 2) i = M (27 + 8 * t + 2) i ∧ M' (27 + 8 * t + 3) i = M (27 + 8 * t + 3) i) : CDt t M' D := by
  refine ⟨by rw [e3]; exact h.1, fun i c hc => ?_⟩
  obtain ⟨hi, -⟩ := List.getElem?_eq_some_iff.mp hc
  obtain ⟨a, b, g⟩ := e i (by omega)
  rw [a, b, g]
  exact h.2 i c hc
theorem CDt_s {t : Nat} {M M' : mM} {D : List CLZ} {c : CLZ} (h : CDt t M D) (e3 : M' (27 + 8 * t) 3 = M (27 + 8 * t) 3 + 1) (e : ∀ i : Int, i ≠ D.length → M' (27 + 8 * t + 1) i = M (27 + 8 * t + 1) i ∧ M' (27 + 8 * t + 2) i = M (27 + 8 * t + 2) i ∧ M' (27 + 8 * t + 3) i = M (27 + 8 * t + 3) i) (hc : M' (27 + 8 * t + 1) D.length = c.1 ∧ M' (27 + 8 * t + 2) D.length = c.2.1 ∧ M' (27 + 8 * t + 3) D.length = c.2.2.1) : CDt t M' (D ++ [c]) := by
  refine ⟨by rw [e3, h.1, List.length_append, List.length_singleton]; omega, fun i a ha => ?_⟩
  by_cases g : i < D.length
  · rw [List.getElem?_append_left g] at ha
    obtain ⟨x, y, z⟩ := e i (by omega)
    rw [x, y, z]
    exact h.2 i a ha
  · rw [List.getElem?_append_right (by omega)] at ha
    obtain ⟨g1, g2⟩ := List.getElem?_eq_some_iff.mp ha
    rw [List.length_singleton] at g1
    have hi : i = D.length := by omega
    have e2 : c = a := by
      rw [← g2]
      simp
    rw [← e2, hi]
    exact hc
theorem CDw_c {t : Nat} {M M' : mM} {D : List CLZ} {P : List (Int × Int)} (h : CDw t M D P) (e5 : ∀ w, w ≤ 3 → hasW w D → M' (27 + 8 * t + 5) w = M (27 + 8 * t + 5) w) (e6 : M' (27 + 8 * t + 6) = M (27 + 8 * t + 6)) : CDw t M' D P := fun w w0 w3 => by
  rcases h w w0 w3 with ⟨a, b⟩ | ⟨i, c, pre, suf, a, b, h3, h4, h5, h6⟩
  · exact Or.inl ⟨a, by rw [e6]; exact b⟩
  · exact Or.inr ⟨i, c, pre, suf, a, b, h3, by rw [e5 w w3 ⟨c, List.mem_of_getElem? a, b⟩]; exact h4, by rw [e6]; exact h5, h6⟩
/-- one law more -/
theorem CDw_s {t : Nat} {M M' : mM} {D : List CLZ} {P L : List (Int × Int)} {w x y : Int} (hw : w ≤ 3) (h : CDw t M D P) (hn : ¬ hasW w D) (e5 : M' (27 + 8 * t + 5) = M (27 + 8 * t + 5)) (f5 : M (27 + 8 * t + 5) w = P.length) (e6 : M' (27 + 8 * t + 6) = mU (M (27 + 8 * t + 6)) w ((P.length : Int) + L.length)) (hL : L ≠ []) : CDw t M' (D ++ [(w, x, y, L)]) (P ++ L) := fun u u0 u3 => by
  by_cases c : u = w
  · subst c
    refine Or.inr ⟨D.length, (u, x, y, L), P, [], ?_, rfl, by rw [List.append_nil], by rw [e5]; exact f5, by rw [e6, mU_e], hL⟩
    rw [List.getElem?_append_right (by omega), Nat.sub_self]
    rfl
  · rcases h u u0 u3 with ⟨a, b⟩ | ⟨i, c, pre, suf, a, b, h3, h4, h5, h6⟩
    · refine Or.inl ⟨fun ⟨q, hq, hq2⟩ => ?_, by rw [e6, mU_n (by omega)]; exact b⟩
      rcases List.mem_append.mp hq with g | g
      · exact a ⟨q, g, hq2⟩
      · rw [List.mem_singleton.mp g] at hq2
        exact c hq2.symm
    · obtain ⟨hi, -⟩ := List.getElem?_eq_some_iff.mp a
      exact Or.inr ⟨i, c, pre, suf ++ L, by rw [List.getElem?_append_left hi]; exact a, b, by rw [h3]; simp, by rw [e5]; exact h4, by rw [e6, mU_n (by omega)]; exact h5, h6⟩
/-- one clause of another kind more -/
theorem CDw_d {t : Nat} {M M' : mM} {D : List CLZ} {P : List (Int × Int)} {c : CLZ} (hc : 4 ≤ c.1) (h : CDw t M D P) (e5 : M' (27 + 8 * t + 5) = M (27 + 8 * t + 5)) (e6 : M' (27 + 8 * t + 6) = M (27 + 8 * t + 6)) : CDw t M' (D ++ [c]) P := fun u u0 u3 => by
  rcases h u u0 u3 with ⟨a, b⟩ | ⟨i, c2, pre, suf, a, b, h3, h4, h5, h6⟩
  · refine Or.inl ⟨fun ⟨q, hq, hq2⟩ => ?_, by rw [e6]; exact b⟩
    rcases List.mem_append.mp hq with g | g
    · exact a ⟨q, g, hq2⟩
    · rw [List.mem_singleton.mp g] at hq2
      omega
  · obtain ⟨hi, -⟩ := List.getElem?_eq_some_iff.mp a
    exact Or.inr ⟨i, c2, pre, suf, by rw [List.getElem?_append_left hi]; exact a, b, h3, by rw [e5]; exact h4, by rw [e6]; exact h5, h6⟩
/-- between clauses -/
def IDs (t n : Nat) (f : Int → Int) (p : Nat) (D : List CLZ) (P : List (Int × Int)) (M : mM) : Prop := BS t n f p M ∧ M 61 4 = -1 ∧ CDt t M D ∧ CDw t M D P ∧ M (27 + 8 * t) 5 = P.length ∧ vAt (M (27 + 8 * t + 4)) 0 (P.map enc)
/-- in a law -/
def LWs (t n : Nat) (f : Int → Int) (p : Nat) (D : List CLZ) (P : List (Int × Int)) (w N : Int) (F : FR) (L : List (Int × Int)) (w1 aA : Bool) (M : mM) : Prop := BS t n f p M ∧ CDt t M D ∧ CDw t M D P ∧ CLs t M w 0 N F (P ++ L) w1 aA ∧ (M (27 + 8 * t + 1) D.length = w ∧ M (27 + 8 * t + 2) D.length = 0 ∧ M (27 + 8 * t + 3) D.length = 0) ∧ M (27 + 8 * t + 5) w = P.length
/-- in another clause -/
def PTs (t n : Nat) (f : Int → Int) (p : Nat) (D : List CLZ) (P : List (Int × Int)) (w : Int) (pp : Nat) (x y : Int) (M : mM) : Prop := BS t n f p M ∧ CDt t M D ∧ CDw t M D P ∧ M (27 + 8 * t) 5 = P.length ∧ vAt (M (27 + 8 * t + 4)) 0 (P.map enc) ∧ M 61 4 = w ∧ M 61 5 = pp ∧ (M (27 + 8 * t + 1) D.length = w ∧ M (27 + 8 * t + 2) D.length = x ∧ M (27 + 8 * t + 3) D.length = y)
theorem CLs_59 {t : Nat} {M M' : mM} {w i0 N : Int} {F : FR} {L : List (Int × Int)} {w1 aA : Bool} (ht : t < 4) (h : CLs t M w i0 N F L w1 aA) (e : ∀ k, k ≠ 59 → M' k = M k) : CLs t M' w i0 N F L w1 aA := by
  obtain ⟨g, Lc, h⟩ := h
  refine ⟨g, Lc, ?_⟩
  rw [e 61 (by decide), e 62 (by decide), e (27 + 8 * t) (by omega), e (27 + 8 * t + 4) (by omega)]
  exact h
theorem LWs_59 {t n : Nat} {f : Int → Int} {p q : Nat} {D : List CLZ} {P : List (Int × Int)} {w N : Int} {F : FR} {L : List (Int × Int)} {w1 aA : Bool} {M M' : mM} (ht : t < 4) (h : LWs t n f p D P w N F L w1 aA M) (e : f59 M M') (e2 : M' 59 2 = q) : LWs t n f q D P w N F L w1 aA M' := by
  obtain ⟨a, b, c, g, h1, h2⟩ := h
  have z : ∀ k, k ≠ 59 → M' k = M k := fun k hk => e.1 k (fun q => hk (List.mem_singleton.mp q))
  refine ⟨BS_59 a e e2, CDt_c b (by rw [z _ (by omega)]) (fun i _ => by rw [z _ (by omega), z _ (by omega), z _ (by omega)]; exact ⟨rfl, rfl, rfl⟩), CDw_c c (fun _ _ _ => by rw [z _ (by omega)]) (z _ (by omega)), CLs_59 ht g z, ?_, ?_⟩
  · rw [z _ (by omega), z _ (by omega), z _ (by omega)]; exact h1
  · rw [z _ (by omega)]; exact h2
theorem PTs_59 {t n : Nat} {f : Int → Int} {p q : Nat} {D : List CLZ} {P : List (Int × Int)} {w x y : Int} {pp : Nat} {M M' : mM} (ht : t < 4) (h : PTs t n f p D P w pp x y M) (e : f59 M M') (e2 : M' 59 2 = q) : PTs t n f q D P w pp x y M' := by
  obtain ⟨a, b, c, h1, h2, h3, h4, h5⟩ := h
  have z : ∀ k, k ≠ 59 → M' k = M k := fun k hk => e.1 k (fun q => hk (List.mem_singleton.mp q))
  refine ⟨BS_59 a e e2, CDt_c b (by rw [z _ (by omega)]) (fun i _ => by rw [z _ (by omega), z _ (by omega), z _ (by omega)]; exact ⟨rfl, rfl, rfl⟩), CDw_c c (fun _ _ _ => by rw [z _ (by omega)]) (z _ (by omega)), ?_, ?_, ?_, ?_, ?_⟩
  · rw [z _ (by omega)]; exact h1
  · rw [z _ (by omega)]; exact h2
  · rw [z 61 (by decide)]; exact h3
  · rw [z 61 (by decide)]; exact h4
  · rw [z _ (by omega), z _ (by omega), z _ (by omega)]; exact h5
theorem IDs_59 {t n : Nat} {f : Int → Int} {p q : Nat} {D : List CLZ} {P : List (Int × Int)} {M M' : mM} (ht : t < 4) (h : IDs t n f p D P M) (e : f59 M M') (e2 : M' 59 2 = q) : IDs t n f q D P M' := by
  obtain ⟨a, h3, b, c, h1, h2⟩ := h
  have z : ∀ k, k ≠ 59 → M' k = M k := fun k hk => e.1 k (fun q => hk (List.mem_singleton.mp q))
  refine ⟨BS_59 a e e2, ?_, CDt_c b (by rw [z _ (by omega)]) (fun i _ => by rw [z _ (by omega), z _ (by omega), z _ (by omega)]; exact ⟨rfl, rfl, rfl⟩), CDw_c c (fun _ _ _ => by rw [z _ (by omega)]) (z _ (by omega)), ?_, ?_⟩
  · rw [z 61 (by decide)]; exact h3
  · rw [z _ (by omega)]; exact h1
  · rw [z _ (by omega)]; exact h2
theorem LWs_st {t n : Nat} {f : Int → Int} {p : Nat} {D : List CLZ} {P : List (Int × Int)} {w N N2 : Int} {F F2 : FR} {L L2 : List (Int × Int)} {w1 aA w2 a2 : Bool} {M M' : mM} (ht : t < 4) (h : LWs t n f p D P w N F L w1 aA M) (e : fLw t M M') (hC : CLs t M' w 0 N2 F2 (P ++ L2) w2 a2) : LWs t n f p D P w N2 F2 L2 w2 a2 M' := by
  obtain ⟨a, b, c, g, h1, h2⟩ := h
  have z : ∀ k, k ≠ 61 → k ≠ 62 → k ≠ 27 + 8 * t → k ≠ 27 + 8 * t + 4 → M' k = M k := e.1
  refine ⟨BS_c a (z _ (by decide) (by decide) (by omega) (by omega)) (z _ (by decide) (by decide) (by omega) (by omega)) (fun k k1 k2 => z k (by omega) (by omega) (by omega) (by omega)) (e.2.1 3 (by decide)) (e.2.1 0 (by decide)) (e.2.1 1 (by decide)), CDt_c b (e.2.2 3 (by decide)) (fun i _ => by rw [z _ (by omega) (by omega) (by omega) (by omega), z _ (by omega) (by omega) (by omega) (by omega), z _ (by omega) (by omega) (by omega) (by omega)]; exact ⟨rfl, rfl, rfl⟩), CDw_c c (fun _ _ _ => by rw [z _ (by omega) (by omega) (by omega) (by omega)]) (z _ (by omega) (by omega) (by omega) (by omega)), hC, ?_, ?_⟩
  · rw [z _ (by omega) (by omega) (by omega) (by omega), z _ (by omega) (by omega) (by omega) (by omega), z _ (by omega) (by omega) (by omega) (by omega)]; exact h1
  · rw [z _ (by omega) (by omega) (by omega) (by omega)]; exact h2
theorem LWs_en {t n : Nat} {f : Int → Int} {p : Nat} {D : List CLZ} {P : List (Int × Int)} {w N : Int} {F : FR} {L L2 : List (Int × Int)} {w1 aA : Bool} {M M' : mM} (ht : t < 4) (hw : 0 ≤ w ∧ w ≤ 3) (hn : ¬ hasW w D) (hL : L2 ≠ []) (h : LWs t n f p D P w N F L w1 aA M) (e : fEn t w (0 + (P ++ L2).length) M M') (hC : vAt (M' (27 + 8 * t + 4)) 0 ((P ++ L2).map enc)) : IDs t n f p (D ++ [(w, 0, 0, L2)]) (P ++ L2) M' := by
  obtain ⟨a, b, c, g, h1, h2⟩ := h
  obtain ⟨z, z61, z0, z4, z3, z5, z6⟩ := e
  refine ⟨BS_c a (z _ (by decide) (by decide) (by omega) (by omega) (by omega)) (z _ (by decide) (by decide) (by omega) (by omega) (by omega)) (fun k k1 k2 => z k (by omega) (by omega) (by omega) (by omega) (by omega)) (z61 3 (by decide)) (z61 0 (by decide)) (z61 1 (by decide)), z4, CDt_s b z3 (fun i _ => by rw [z _ (by omega) (by omega) (by omega) (by omega) (by omega), z _ (by omega) (by omega) (by omega) (by omega) (by omega), z _ (by omega) (by omega) (by omega) (by omega) (by omega)]; exact ⟨rfl, rfl, rfl⟩) ?_, CDw_s hw.2 c hn (z _ (by omega) (by omega) (by omega) (by omega) (by omega)) h2 ?_ hL, ?_, hC⟩
  · rw [z _ (by omega) (by omega) (by omega) (by omega) (by omega), z _ (by omega) (by omega) (by omega) (by omega) (by omega), z _ (by omega) (by omega) (by omega) (by omega) (by omega)]; exact h1
  · rw [z6, List.length_append]
    congr 1
    omega
  · rw [z5]; omega
theorem PTs_st {t n : Nat} {f : Int → Int} {p : Nat} {D : List CLZ} {P : List (Int × Int)} {w x y x2 y2 : Int} {pp : Nat} {M M' : mM} (ht : t < 4) (h : PTs t n f p D P w pp x y M) (e : fPt t D.length M M') (e5 : M' 61 5 = ((pp + 1 : Nat) : Int)) (ex : M' (27 + 8 * t + 2) D.length = x2) (ey : M' (27 + 8 * t + 3) D.length = y2) : PTs t n f p D P w (pp + 1) x2 y2 M' := by
  obtain ⟨a, b, c, h1, h2, h3, h4, h5⟩ := h
  obtain ⟨z, z61, z2⟩ := e
  refine ⟨BS_c a (z _ (by decide) (by omega) (by omega)) (z _ (by decide) (by omega) (by omega)) (fun k k1 k2 => z k (by omega) (by omega) (by omega)) (z61 3 (by decide)) (z61 0 (by decide)) (z61 1 (by decide)), CDt_c b (by rw [z _ (by omega) (by omega) (by omega)]) (fun i hi => by rw [z _ (by omega) (by omega) (by omega)]; exact ⟨rfl, z2 i hi⟩), CDw_c c (fun _ _ _ => by rw [z _ (by omega) (by omega) (by omega)]) (z _ (by omega) (by omega) (by omega)), ?_, ?_, ?_, e5, ?_, ex, ey⟩
  · rw [z _ (by omega) (by omega) (by omega)]; exact h1
  · rw [z _ (by omega) (by omega) (by omega)]; exact h2
  · rw [z61 4 (by decide)]; exact h3
  · rw [z _ (by omega) (by omega) (by omega)]; exact h5.1
theorem PTs_en {t n : Nat} {f : Int → Int} {p : Nat} {D : List CLZ} {P : List (Int × Int)} {w x y : Int} {pp : Nat} {M M' : mM} (ht : t < 4) (hw : 4 ≤ w) (h : PTs t n f p D P w pp x y M) (e : fPe t D.length M M') : IDs t n f p (D ++ [(w, x, y, [])]) P M' := by
  obtain ⟨a, b, c, h1, h2, h3, h4, h5⟩ := h
  obtain ⟨z, z61, z4, z0, z3⟩ := e
  refine ⟨BS_c a (z _ (by decide) (by omega)) (z _ (by decide) (by omega)) (fun k k1 k2 => z k (by omega) (by omega)) (z61 3 (by decide) (by decide)) (z61 0 (by decide) (by decide)) (z61 1 (by decide) (by decide)), z4, CDt_s b (by rw [z3, b.1]) (fun i hi => by rw [z _ (by omega) (by omega), z _ (by omega) (by omega), z _ (by omega) (by omega)]; exact ⟨rfl, rfl, rfl⟩) ?_, CDw_d hw c (z _ (by omega) (by omega)) (z _ (by omega) (by omega)), ?_, ?_⟩
  · rw [z _ (by omega) (by omega), z _ (by omega) (by omega), z _ (by omega) (by omega)]; exact h5
  · rw [z0 5 (by decide)]; exact h1
  · rw [z _ (by omega) (by omega)]; exact h2
theorem IDs_law {t n : Nat} {f : Int → Int} {p : Nat} {D : List CLZ} {P : List (Int × Int)} {w : Int} {M M' : mM} (ht : t < 4) (hn : ¬ hasW w D) (h : IDs t n f p D P M) (e : fBg t w D.length M M') (e2 : fBl t w P.length M') : LWs t n f p D P w P.length [(1, [])] [] true (decide (w = 1)) M' := by
  obtain ⟨a, h3, b, c, h1, h2⟩ := h
  obtain ⟨z, z61, z4, z5, zt, zc, zf⟩ := e
  obtain ⟨y5, y7, y8, y9, y10, y11, y12⟩ := e2
  have a3 := a.2.2.2.1
  refine ⟨BS_c a (z _ (by decide) (by omega) (by omega) (by omega) (by omega)) (z _ (by decide) (by omega) (by omega) (by omega) (by omega)) (fun k k1 k2 => z k (by omega) (by omega) (by omega) (by omega) (by omega)) (z61 3 (by decide)) (z61 0 (by decide)) (z61 1 (by decide)), CDt_c b (by rw [z _ (by omega) (by omega) (by omega) (by omega) (by omega)]) zt, CDw_c c (fun u _ hu => zf u (fun q => hn (by rw [← q]; exact hu))) (z _ (by omega) (by omega) (by omega) (by omega) (by omega)), ⟨0, P ++ [], fun _ => rfl, (List.append_nil _).symm, ?_, z4, ?_, ?_, ?_, ?_, ?_, y11, ?_, ?_, ?_, by decide, ?_, by decide⟩, zc, y5⟩
  · rw [z61 3 (by decide)]; exact a3
  · exact trivial
  · rw [y7]; rfl
  · rw [y8]; rfl
  · rw [y9]; rfl
  · rw [y10]; rfl
  · rw [y12]; rfl
  · rw [z _ (by omega) (by omega) (by omega) (by omega) (by omega), h1, List.append_nil]; omega
  · rw [z _ (by omega) (by omega) (by omega) (by omega) (by omega), List.append_nil]; exact h2
  · rw [List.append_nil]
    show 0 + (P.length : Int) + ((0 : Nat) : Int) ≤ P.length
    omega
theorem IDs_prt {t n : Nat} {f : Int → Int} {p : Nat} {D : List CLZ} {P : List (Int × Int)} {w : Int} {M M' : mM} (ht : t < 4) (hn : 4 ≤ w) (h : IDs t n f p D P M) (e : fBg t w D.length M M') : PTs t n f p D P w 0 0 0 M' := by
  obtain ⟨a, h3, b, c, h1, h2⟩ := h
  obtain ⟨z, z61, z4, z5, zt, zc, zf⟩ := e
  refine ⟨BS_c a (z _ (by decide) (by omega) (by omega) (by omega) (by omega)) (z _ (by decide) (by omega) (by omega) (by omega) (by omega)) (fun k k1 k2 => z k (by omega) (by omega) (by omega) (by omega) (by omega)) (z61 3 (by decide)) (z61 0 (by decide)) (z61 1 (by decide)), CDt_c b (by rw [z _ (by omega) (by omega) (by omega) (by omega) (by omega)]) zt, CDw_c c (fun u u3 _ => zf u (by omega)) (z _ (by omega) (by omega) (by omega) (by omega) (by omega)), ?_, ?_, z4, z5, zc⟩
  · rw [z _ (by omega) (by omega) (by omega) (by omega) (by omega)]; exact h1
  · rw [z _ (by omega) (by omega) (by omega) (by omega) (by omega)]; exact h2
