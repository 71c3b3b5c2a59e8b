/-! text: the machine between both: a law -/
abbrev FR : Type := List (Int × List Int)
/-- what the reference calls a sign or a word that works -/
def opk (k : Int) : Int := if k = 45 then 402 else if k = 14 then 405 else if k = 13 then 406 else if k = 12 then 407 else sgT k
def em (W : List Int) : List (Int × Int) := W.map (fun k => (opk k, 0))
def mns (n : Nat) : List (Int × Int) := em (List.replicate n 45)
theorem oTk_opk {k : Int} (h : isWt k) (h39 : k ≠ 39) : oTk (opk k) = k ∧ opk k ≠ 400 ∧ opk k ≠ 401 := by
  unfold isWt at h
  rcases (show k = 12 ∨ k = 13 ∨ k = 14 ∨ k = 28 ∨ k = 29 ∨ k = 30 ∨ k = 31 ∨ k = 32 ∨ k = 33 ∨ k = 34 ∨ k = 35 ∨ k = 36 ∨ k = 37 ∨ k = 38 ∨ k = 45 by omega) with rfl | rfl | rfl | rfl | rfl | rfl | rfl | rfl | rfl | rfl | rfl | rfl | rfl | rfl | rfl <;> decide
theorem enc_em : ∀ W : List Int, (∀ k ∈ W, isWt k ∧ k ≠ 39) → (em W).map enc = W.map (fun k => 20000 + k)
  | [], _ => rfl
  | k :: W, h => by
    obtain ⟨h1, h2⟩ := h k (List.mem_cons_self ..)
    obtain ⟨q1, q2, q3⟩ := oTk_opk h1 h2
    have ih := enc_em W (fun x hx => h x (List.mem_cons_of_mem _ hx))
    show enc (opk k, 0) :: (em W).map enc = (20000 + k) :: W.map (fun k => 20000 + k)
    rw [ih]
    congr 1
    unfold enc
    rw [if_neg q2, if_neg q3, q1]
theorem em_app (W V : List Int) : em (W ++ V) = em W ++ em V := List.map_append
/-- a law that waits -/
def sy (x : Int) : List Int := if x = 1 ∨ x = 2 then [] else [x]
def fl : FR → List Int
  | [] => []
  | (x, ws) :: F => ws ++ (sy x ++ fl F)
def dep : FR → Nat
  | [] => 0
  | (x, _) :: F => (if x = 14 ∨ x = 39 ∨ x = 45 then 1 else 0) + dep F
def par : FR → Nat
  | [] => 0
  | (x, _) :: F => (if x = 39 then 1 else 0) + par F
def nM : FR → Nat
  | [] => 0
  | (x, _) :: F => if x = 45 then nM F + 1 else 0
def dM : FR → FR
  | [] => []
  | (x, ws) :: F => if x = 45 then dM F else (x, ws) :: F
def nts (n : Nat) (F : FR) : FR := List.replicate n (14, []) ++ F
def aw (ws : List Int) : Prop := ws = [] ∨ (∃ a, (a = 34 ∨ a = 35) ∧ ws = [a]) ∨ (∃ m, (m = 36 ∨ m = 37 ∨ m = 38) ∧ ws = [m]) ∨ (∃ m a, (m = 36 ∨ m = 37 ∨ m = 38) ∧ (a = 34 ∨ a = 35) ∧ ws = [m, a])
def bw (ws : List Int) : Prop := ws = [] ∨ ws = [12] ∨ ws = [13] ∨ ws = [13, 12]
def isR (x : Int) : Prop := 28 ≤ x ∧ x ≤ 33
def arB (tn : Bool) (y : Int) : Prop := y = 39 ∨ y = 45 ∨ y = 2 ∨ isR y ∨ (y = 1 ∧ tn = false)
def asB (tn : Bool) (y : Int) : Prop := y = 14 ∨ (y = 1 ∧ tn = true)
def okF (tn : Bool) : FR → Prop
  | [] => False
  | [(x, ws)] => x = 1 ∧ (tn = true → bw ws) ∧ (tn = false → aw ws)
  | (x, ws) :: (y, us) :: F => okF tn ((y, us) :: F) ∧ ((x = 14 ∧ ws = [] ∧ asB tn y) ∨ ((x = 2 ∨ isR x) ∧ aw ws ∧ asB tn y) ∨ (x = 39 ∧ aw ws ∧ arB tn y) ∨ (x = 45 ∧ ws = [] ∧ arB tn y))
def topF : FR → Int
  | [] => 0
  | (x, _) :: _ => x
/-- the mode: a ONE is wanted, at an ask -/
def okM2 (tn : Bool) (F : FR) (w1 aA : Bool) : Prop := okF tn F ∧ (w1 = true → aA = true → asB tn (topF F)) ∧ (w1 = true → aA = false → arB tn (topF F)) ∧ (w1 = false → aA = false ∧ arB tn (topF F) ∧ topF F ≠ 45)
def fO (aA : Bool) (F : FR) : FR := if aA = true then (2, []) :: F else F
def tkW (r : Int) (ws : List Int) : List Int := ws.takeWhile (fun k => decide (r ≤ rk k))
def drW (r : Int) (ws : List Int) : List Int := ws.dropWhile (fun k => decide (r ≤ rk k))
def isNm (k : Int) : Prop := k = 5 ∨ k = 8 ∨ (15 ≤ k ∧ k < 28)
def nNo (k : Int) : Int := if k = 8 then 0 else if k = 5 then 1 else k - 13
def LSt (w : Int) (F : FR) (L : List (Int × Int)) (w1 aA : Bool) (k v : Int) (F' : FR) (L' : List (Int × Int)) (w1' aA' : Bool) : Prop :=
  (w1 = true ∧ k = 42 ∧ v ≤ 9999 ∧ F' = dM (fO aA F) ∧ L' = L ++ ((400, v) :: mns (nM (fO aA F))) ∧ w1' = false ∧ aA' = false) ∨
  (w1 = true ∧ isNm k ∧ okN w (nNo k) ∧ F' = dM (fO aA F) ∧ L' = L ++ ((401, nNo k) :: mns (nM (fO aA F))) ∧ w1' = false ∧ aA' = false) ∨
  (w1 = true ∧ k = 14 ∧ aA = true ∧ dep F < 8 ∧ F' = (14, []) :: F ∧ L' = L ∧ w1' = true ∧ aA' = true) ∨
  (w1 = true ∧ k = 39 ∧ dep F < 8 ∧ F' = (39, []) :: fO aA F ∧ L' = L ∧ w1' = true ∧ aA' = false) ∨
  (w1 = true ∧ k = 35 ∧ dep F < 8 ∧ F' = (45, []) :: fO aA F ∧ L' = L ∧ w1' = true ∧ aA' = false) ∨
  (w1 = false ∧ k = 40 ∧ ∃ ws G, F = (39, ws) :: G ∧ F' = dM G ∧ L' = L ++ (em ws ++ mns (nM G)) ∧ w1' = false ∧ aA' = false) ∨
  (w1 = false ∧ (34 ≤ k ∧ k ≤ 38) ∧ ∃ x ws G, F = (x, ws) :: G ∧ F' = (x, k :: drW (rk k) ws) :: G ∧ L' = L ++ em (tkW (rk k) ws) ∧ w1' = true ∧ aA' = false) ∨
  (w1 = false ∧ isR k ∧ ∃ ws G, F = (2, ws) :: G ∧ F' = (k, []) :: G ∧ L' = L ++ em ws ∧ w1' = true ∧ aA' = false) ∨
  (w1 = false ∧ (k = 12 ∨ k = 13) ∧ ∃ x ws n bs, isR x ∧ F = (x, ws) :: nts n [(1, bs)] ∧ F' = [(1, k :: drW (rk k) bs)] ∧ L' = L ++ em (ws ++ (x :: (List.replicate n 14 ++ tkW (rk k) bs))) ∧ w1' = true ∧ aA' = true)
def LEnd (w : Int) (F : FR) (L : List (Int × Int)) (w1 : Bool) (k : Int) (L' : List (Int × Int)) : Prop :=
  w1 = false ∧ k = 41 ∧ ((w ≠ 1 ∧ ∃ ws, F = [(1, ws)] ∧ L' = L ++ em ws) ∨ ∃ x ws n bs, isR x ∧ F = (x, ws) :: nts n [(1, bs)] ∧ L' = L ++ em (ws ++ (x :: (List.replicate n 14 ++ bs))))
def LFt (w : Int) (F : FR) (w1 aA : Bool) (k v fa : Int) : Prop :=
  (w1 = true ∧ k = 42 ∧ 9999 < v ∧ fa = 2) ∨ (w1 = true ∧ isNm k ∧ ¬ okN w (nNo k) ∧ fa = 5) ∨
  (w1 = true ∧ ((k = 14 ∧ aA = true) ∨ k = 39 ∨ k = 35) ∧ 8 ≤ dep F ∧ fa = 3) ∨
  (w1 = true ∧ k ≠ 42 ∧ ¬ isNm k ∧ ¬ (k = 14 ∧ aA = true) ∧ k ≠ 39 ∧ k ≠ 35 ∧ fa = 1) ∨
  (w1 = false ∧ fa = 1 ∧ (k = 40 → topF F ≠ 39) ∧ ¬ (34 ≤ k ∧ k ≤ 38) ∧ (isR k → topF F ≠ 2) ∧ (k = 12 ∨ k = 13 → ¬ isR (topF F)) ∧ (k = 41 → topF F ≠ 1 ∧ ¬ isR (topF F)))
theorem okF_as {tn : Bool} {y : Int} {us : List Int} : ∀ {F : FR}, okF tn ((y, us) :: F) → asB tn y → ∃ n bs, (y, us) :: F = nts n [(1, bs)]
  | [], h, _ => ⟨0, us, by rw [h.1]; rfl⟩
  | (z, vs) :: F, h, g => by
    obtain ⟨h1, h2⟩ := h
    have hy : y = 14 ∨ y = 1 := by
      rcases g with g | g
      · exact Or.inl g
      · exact Or.inr g.1
    have hs : y = 14 ∧ us = [] ∧ asB tn z := by
      unfold isR at h2
      rcases h2 with q | q | q | q
      · exact q
      · exfalso; rcases q.1 with q1 | q1 <;> omega
      · exfalso; have := q.1; omega
      · exfalso; have := q.1; omega
    obtain ⟨n, bs, e⟩ := okF_as h1 hs.2.2
    refine ⟨n + 1, bs, ?_⟩
    rw [e, hs.1, hs.2.1]
    rfl
/-- a sign of an asking stands on its NOTs and the base -/
theorem okF_R {tn : Bool} {x : Int} {ws : List Int} {F : FR} (h : okF tn ((x, ws) :: F)) (hx : x = 2 ∨ isR x) : ∃ n bs, F = nts n [(1, bs)] := by
  cases F with
  | nil =>
    exfalso
    have := h.1
    unfold isR at hx
    omega
  | cons p F =>
    obtain ⟨y, us⟩ := p
    obtain ⟨h1, h2⟩ := h
    have hs : asB tn y := by
      unfold isR at h2 hx
      rcases h2 with q | q | q | q
      · exfalso; have := q.1; omega
      · exact q.2.2
      · exfalso; have := q.1; omega
      · exfalso; have := q.1; omega
    exact okF_as h1 hs
/-- there is always a step, an end or a fault -/
theorem LSt_ex {w : Int} {F : FR} {L : List (Int × Int)} {w1 aA : Bool} {k v : Int} (h : okM2 (decide (w = 1)) F w1 aA) (hv : k = 42 → 0 ≤ v) : (∃ F' L' w1' aA', LSt w F L w1 aA k v F' L' w1' aA') ∨ (∃ L', LEnd w F L w1 k L') ∨ ∃ fa, LFt w F w1 aA k v fa := by
  obtain ⟨hF, h1, h2, h3⟩ := h
  cases w1 with
  | true =>
    by_cases c1 : k = 42
    · by_cases c2 : v ≤ 9999
      · exact Or.inl ⟨_, _, _, _, Or.inl ⟨rfl, c1, c2, rfl, rfl, rfl, rfl⟩⟩
      · exact Or.inr (Or.inr ⟨2, Or.inl ⟨rfl, c1, by omega, rfl⟩⟩)
    · by_cases c2 : isNm k
      · by_cases c3 : okN w (nNo k)
        · exact Or.inl ⟨_, _, _, _, Or.inr (Or.inl ⟨rfl, c2, c3, rfl, rfl, rfl, rfl⟩)⟩
        · exact Or.inr (Or.inr ⟨5, Or.inr (Or.inl ⟨rfl, c2, c3, rfl⟩)⟩)
      · by_cases c3 : (k = 14 ∧ aA = true) ∨ k = 39 ∨ k = 35
        · by_cases c4 : dep F < 8
          · rcases c3 with c3 | c3 | c3
            · exact Or.inl ⟨_, _, _, _, Or.inr (Or.inr (Or.inl ⟨rfl, c3.1, c3.2, c4, rfl, rfl, rfl, rfl⟩))⟩
            · exact Or.inl ⟨_, _, _, _, Or.inr (Or.inr (Or.inr (Or.inl ⟨rfl, c3, c4, rfl, rfl, rfl, rfl⟩)))⟩
            · exact Or.inl ⟨_, _, _, _, Or.inr (Or.inr (Or.inr (Or.inr (Or.inl ⟨rfl, c3, c4, rfl, rfl, rfl, rfl⟩))))⟩
          · exact Or.inr (Or.inr ⟨3, Or.inr (Or.inr (Or.inl ⟨rfl, c3, by omega, rfl⟩))⟩)
        · exact Or.inr (Or.inr ⟨1, Or.inr (Or.inr (Or.inr (Or.inl ⟨rfl, c1, c2, fun g => c3 (Or.inl g), fun g => c3 (Or.inr (Or.inl g)), fun g => c3 (Or.inr (Or.inr g)), rfl⟩)))⟩)
  | false =>
    obtain ⟨-, g1, g2⟩ := h3 rfl
    cases F with
    | nil => exact hF.elim
    | cons p G =>
      obtain ⟨x, ws⟩ := p
      replace g1 : arB (decide (w = 1)) x := g1
      replace g2 : x ≠ 45 := g2
      by_cases c1 : k = 40 ∧ x = 39
      · obtain ⟨c1, rfl⟩ := c1
        exact Or.inl ⟨_, _, _, _, Or.inr (Or.inr (Or.inr (Or.inr (Or.inr (Or.inl ⟨rfl, c1, ws, G, rfl, rfl, rfl, rfl, rfl⟩)))))⟩
      · by_cases c2 : 34 ≤ k ∧ k ≤ 38
        · exact Or.inl ⟨_, _, _, _, Or.inr (Or.inr (Or.inr (Or.inr (Or.inr (Or.inr (Or.inl ⟨rfl, c2, x, ws, G, rfl, rfl, rfl, rfl, rfl⟩))))))⟩
        · by_cases c3 : isR k ∧ x = 2
          · obtain ⟨c3, rfl⟩ := c3
            exact Or.inl ⟨_, _, _, _, Or.inr (Or.inr (Or.inr (Or.inr (Or.inr (Or.inr (Or.inr (Or.inl ⟨rfl, c3, ws, G, rfl, rfl, rfl, rfl, rfl⟩)))))))⟩
          · by_cases c4 : isR x
            · obtain ⟨n, bs, e⟩ := okF_R hF (Or.inr c4)
              by_cases c5 : k = 12 ∨ k = 13
              · exact Or.inl ⟨_, _, _, _, Or.inr (Or.inr (Or.inr (Or.inr (Or.inr (Or.inr (Or.inr (Or.inr ⟨rfl, c5, x, ws, n, bs, c4, by rw [e], rfl, rfl, rfl, rfl⟩)))))))⟩
              · by_cases c6 : k = 41
                · exact Or.inr (Or.inl ⟨_, rfl, c6, Or.inr ⟨x, ws, n, bs, c4, by rw [e], rfl⟩⟩)
                · exact Or.inr (Or.inr ⟨1, Or.inr (Or.inr (Or.inr (Or.inr ⟨rfl, rfl, fun a b => c1 ⟨a, b⟩, c2, fun a b => c3 ⟨a, b⟩, fun a => absurd a c5, fun a => absurd a c6⟩)))⟩)
            · by_cases c6 : k = 41 ∧ x = 1
              · obtain ⟨c6, rfl⟩ := c6
                have hw : w ≠ 1 := by
                  unfold arB isR at g1
                  rcases g1 with g | g | g | g | g
                  · omega
                  · omega
                  · omega
                  · omega
                  · intro e
                    rw [decide_eq_true e] at g
                    cases g.2
                cases G with
                | nil => exact Or.inr (Or.inl ⟨_, rfl, c6, Or.inl ⟨hw, ws, rfl, rfl⟩⟩)
                | cons p G =>
                  exfalso
                  obtain ⟨y, us⟩ := p
                  have h2 := hF.2
                  unfold isR at h2
                  rcases h2 with q | q | q | q
                  · have := q.1; omega
                  · rcases q.1 with q1 | q1 <;> omega
                  · have := q.1; omega
                  · have := q.1; omega
              · exact Or.inr (Or.inr ⟨1, Or.inr (Or.inr (Or.inr (Or.inr ⟨rfl, rfl, fun a b => c1 ⟨a, b⟩, c2, fun a b => c3 ⟨a, b⟩, fun _ => c4, fun a => ⟨fun b => c6 ⟨a, b⟩, c4⟩⟩)))⟩)
